set_option maxHeartbeats 4000000 in
set_option maxRecDepth 100000 in
theorem c_X1_placeOf (l : Launch) (D : va_G) (cI : ClassId) (t : Nat) (a : Nat → Nat) (n k d v : Nat) (g : Nat → Int) (π : Nat → Nat) (x : Nat) (hn : n ≤ 12) (hg : ∀ j, j < n → g j = ((π j : Nat) : Int)) (hπ : ∀ j, j < n → π j < n) (hx0 : x < n) : zMi l yX1_placeOf cX1_placeOf 3 (some .int) ({ frames := 0, cells := 0, slots := 0, locals := 0 }) D cI [.ref t, .int (zI ((x : Nat) : Int))] [cT t a ((n : Nat) : Int) ((k : Nat) : Int) ((d : Nat) : Int) ((v : Nat) : Int), cR cI (a 3) 12 g] (fun (z : Int) (u : Unit) => z = (((plo π n x) : Nat) : Int)) (fun (u : Unit) => [cT t a ((n : Nat) : Int) ((k : Nat) : Int) ((d : Nat) : Int) ((v : Nat) : Int), cR cI (a 3) 12 g]) := by
  intro sz
  refine zstart rfl (by decide) (Nat.le_of_ble_eq_true rfl) ?_
  intro p e s m below meth c ls K hnm hsz hP hD hS hl
  generalize hargs : ([.ref t, .int (zI ((x : Nat) : Int))] : List Value).toArray = args at K ⊢
  generalize hQf : MQ below _ args s _ _ _ = Qf
  have K : zK p s m args meth c cX1_placeOf 3 RX1 (some .int) D cI := K
  obtain ⟨hx, hb, hml, hown, hts, hE, -, -⟩ := id K
  have hA := zhA (ws0 := [cT t a ((n : Nat) : Int) ((k : Nat) : Int) ((d : Nat) : Int) ((v : Nat) : Int), cR cI (a 3) 12 g]) hsz
  have hl : lv_has ls 3 [(0, .ref t), (1, .int (zI ((x : Nat) : Int)))] := hl
  refine lv_iconst (v := zI 0) hx hb dX1_placeOf_0 rfl ?_
  refine lv_istore_n (lv' := [(2, .int (zI 0)), (0, .ref t), (1, .int (zI ((x : Nat) : Int)))]) hx hb dX1_placeOf_1 rfl hl (by decide) rfl (fun ls hl => ?_)
  have cut_2 : ∀ (N_2 : Nat), ∀ (i : Nat), n - i < N_2 → (i ≤ n) → (∀ j, j < i → π j ≠ x) → ∀ (H : Heap) (locs : List Loc) (ls : Array Slot), va_P D cls [cT t a ((n : Nat) : Int) ((k : Nat) : Int) ((d : Nat) : Int) ((v : Nat) : Int), cR cI (a 3) 12 g] H → va_D (va_A [cT t a ((n : Nat) : Int) ((k : Nat) : Int) ((d : Nat) : Int) ((v : Nat) : Int), cR cI (a 3) 12 g] sz) [cT t a ((n : Nat) : Int) ((k : Nat) : Int) ((d : Nat) : Int) ((v : Nat) : Int), cR cI (a 3) 12 g] → va_S (va_A [cT t a ((n : Nat) : Int) ((k : Nat) : Int) ((d : Nat) : Int) ((v : Nat) : Int), cR cI (a 3) 12 g] sz) s.heap H locs → lv_has ls 3 [(0, .ref t), (1, .int (zI ((x : Nat) : Int))), (2, .int (zI ((i : Nat) : Int)))] → W p l e ({ frames := 0, cells := 0, slots := 0, locals := 0 }) s m args below meth c H locs 0 0 Qf (F0 m 2 ls []) := by
    intro N_2
    induction N_2 with
    | zero => intro i hm_2; exact absurd hm_2 (Nat.not_lt_zero _)
    | succ N_2 ih_2 =>
      intro i hm_2 hi hno H locs ls hP hD hS hl
      refine lv_iload_n hx hb dX1_placeOf_2 rfl (lv_at hl 2 rfl) ?_
      refine lv_aload_n hx hb dX1_placeOf_3 rfl (lv_at hl 0 rfl) ?_
      refine va_get (D := D) (ci := 1) (v := .int (zI ((n : Nat) : Int))) (C := RX1) (T := TX1) (N := 11) hx hb hts inT_X1 hown hE.1 hP 0 rfl rfl 0 (by decide) (hts _ qf_X1_33) (fun _ h9 => h9) rfl dX1_placeOf_4 ?_
      refine z_icmp_ge (tgt := 28) hx hb (by omega) dX1_placeOf_7 (by decide) (fun c_7 => ?_) (fun c_7 => ?_)
      · refine lv_iconst (v := zI 0) hx hb dX1_placeOf_28 rfl ?_
        rw [← hQf]
        exact z_iret K hS () (by rw [plo, fa_is (m := n) (fun j hj => by simp [hno j (by omega)]) (Or.inl rfl), Nat.mod_self]; rfl) hP hD dX1_placeOf_29
      · refine lv_aload_n hx hb dX1_placeOf_10 rfl (lv_at hl 0 rfl) ?_
        refine va_get (D := D) (ci := 1) (v := .ref (a 3)) (C := RX1) (T := TX1) (N := 11) hx hb hts inT_X1 hown hE.1 hP 0 rfl rfl 7 (by decide) (hts _ qf_X1_21) (fun _ h9 => h9) rfl dX1_placeOf_11 ?_
        refine lv_iload_n hx hb dX1_placeOf_14 rfl (lv_at hl 2 rfl) ?_
        have hπi := hπ i (by omega)
        refine z_iald hx hb hE hP 1 rfl i (by omega) (by omega) (by first | decide | omega) ((π i : Nat) : Int) (hg i (by omega)) dX1_placeOf_15 ?_
        refine lv_iload_n hx hb dX1_placeOf_16 rfl (lv_at hl 1 rfl) ?_
        refine z_icmp_ne (tgt := 22) hx hb (by omega) dX1_placeOf_17 (by decide) (fun c_17 => ?_) (fun c_17 => ?_)
        · refine z_iinc (k := 2) (lv' := [(2, .int (zI (((i + 1) : Nat) : Int))), (0, .ref t), (1, .int (zI ((x : Nat) : Int)))]) hx hb (((i + 1) : Nat) : Int) (by omega) dX1_placeOf_22 hl rfl (by decide) rfl (fun ls hl => ?_)
          refine lv_goto (tgt := 2) hx hb dX1_placeOf_25 (by decide) ?_
          exact ih_2 (i + 1) (by omega) (by omega) (by intro j hj; rcases Nat.lt_or_ge j i with h1 | h1; exact hno j h1; rw [show j = i by omega]; omega) _ _ _ hP hD hS (lv_sub hl [1, 2, 0] rfl)
        · refine lv_iload_n hx hb dX1_placeOf_20 rfl (lv_at hl 2 rfl) ?_
          rw [← hQf]
          exact z_iret K hS () (by rw [plo, fa_is (m := i) (fun j hj => by simp [hno j hj]) (Or.inr ⟨by omega, by simp; omega⟩), Nat.mod_eq_of_lt (by omega)]) hP hD dX1_placeOf_21
  exact cut_2 (n - 0 + 1) 0 (Nat.lt_succ_self _) (by omega) (by intro j hj; omega) _ _ _ hP hD hS (lv_sub hl [1, 2, 0] rfl)
set_option maxHeartbeats 4000000 in
set_option maxRecDepth 100000 in
theorem c_X1_asAtFirst (l : Launch) (D : va_G) (cI : ClassId) (t : Nat) (a : Nat → Nat) (n k d v : Nat) (g : Nat → Int) (π : Nat → Nat) (hn : n ≤ 12) (hg : ∀ j, j < n → g j = ((π j : Nat) : Int)) (hπ : ∀ j, j < n → π j < n) : zMi l yX1_asAtFirst cX1_asAtFirst 3 (some .int) ({ frames := 0, cells := 0, slots := 0, locals := 0 }) D cI [.ref t] [cT t a ((n : Nat) : Int) ((k : Nat) : Int) ((d : Nat) : Int) ((v : Nat) : Int), cR cI (a 3) 12 g] (fun (z : Int) (u : Unit) => z = (((fb_ct (fun j => decide (π j = j)) n) : Nat) : Int)) (fun (u : Unit) => [cT t a ((n : Nat) : Int) ((k : Nat) : Int) ((d : Nat) : Int) ((v : Nat) : Int), cR cI (a 3) 12 g]) := by
  intro sz
  refine zstart rfl (by decide) (Nat.le_of_ble_eq_true rfl) ?_
  intro p e s m below meth c ls K hnm hsz hP hD hS hl
  generalize hargs : ([.ref t] : List Value).toArray = args at K ⊢
  generalize hQf : MQ below _ args s _ _ _ = Qf
  have K : zK p s m args meth c cX1_asAtFirst 3 RX1 (some .int) D cI := K
  obtain ⟨hx, hb, hml, hown, hts, hE, -, -⟩ := id K
  have hA := zhA (ws0 := [cT t a ((n : Nat) : Int) ((k : Nat) : Int) ((d : Nat) : Int) ((v : Nat) : Int), cR cI (a 3) 12 g]) hsz
  have hl : lv_has ls 3 [(0, .ref t)] := hl
  refine lv_iconst (v := zI 0) hx hb dX1_asAtFirst_0 rfl ?_
  refine lv_istore_n (lv' := [(1, .int (zI 0)), (0, .ref t)]) hx hb dX1_asAtFirst_1 rfl hl (by decide) rfl (fun ls hl => ?_)
  refine lv_iconst (v := zI 0) hx hb dX1_asAtFirst_2 rfl ?_
  refine lv_istore_n (lv' := [(2, .int (zI 0)), (1, .int (zI 0)), (0, .ref t)]) hx hb dX1_asAtFirst_3 rfl hl (by decide) rfl (fun ls hl => ?_)
  have cut_4 : ∀ (N_4 : Nat), ∀ (i y : Nat), n - i < N_4 → (i ≤ n) → (y = fb_ct (fun j => decide (π j = j)) i) → ∀ (H : Heap) (locs : List Loc) (ls : Array Slot), va_P D cls [cT t a ((n : Nat) : Int) ((k : Nat) : Int) ((d : Nat) : Int) ((v : Nat) : Int), cR cI (a 3) 12 g] H → va_D (va_A [cT t a ((n : Nat) : Int) ((k : Nat) : Int) ((d : Nat) : Int) ((v : Nat) : Int), cR cI (a 3) 12 g] sz) [cT t a ((n : Nat) : Int) ((k : Nat) : Int) ((d : Nat) : Int) ((v : Nat) : Int), cR cI (a 3) 12 g] → va_S (va_A [cT t a ((n : Nat) : Int) ((k : Nat) : Int) ((d : Nat) : Int) ((v : Nat) : Int), cR cI (a 3) 12 g] sz) s.heap H locs → lv_has ls 3 [(0, .ref t), (1, .int (zI ((y : Nat) : Int))), (2, .int (zI ((i : Nat) : Int)))] → W p l e ({ frames := 0, cells := 0, slots := 0, locals := 0 }) s m args below meth c H locs 0 0 Qf (F0 m 4 ls []) := by
    intro N_4
    induction N_4 with
    | zero => intro i y hm_4; exact absurd hm_4 (Nat.not_lt_zero _)
    | succ N_4 ih_4 =>
      intro i y hm_4 hi hy H locs ls hP hD hS hl
      refine lv_iload_n hx hb dX1_asAtFirst_4 rfl (lv_at hl 2 rfl) ?_
      refine lv_aload_n hx hb dX1_asAtFirst_5 rfl (lv_at hl 0 rfl) ?_
      refine va_get (D := D) (ci := 1) (v := .int (zI ((n : Nat) : Int))) (C := RX1) (T := TX1) (N := 11) hx hb hts inT_X1 hown hE.1 hP 0 rfl rfl 0 (by decide) (hts _ qf_X1_33) (fun _ h9 => h9) rfl dX1_asAtFirst_6 ?_
      refine z_icmp_ge (tgt := 31) hx hb (by omega) dX1_asAtFirst_9 (by decide) (fun c_9 => ?_) (fun c_9 => ?_)
      · refine lv_iload_n hx hb dX1_asAtFirst_31 rfl (lv_at hl 1 rfl) ?_
        rw [← hQf]
        exact z_iret K hS () (by rw [hy, show i = n by omega]) hP hD dX1_asAtFirst_32
      · refine lv_aload_n hx hb dX1_asAtFirst_12 rfl (lv_at hl 0 rfl) ?_
        refine va_get (D := D) (ci := 1) (v := .ref (a 3)) (C := RX1) (T := TX1) (N := 11) hx hb hts inT_X1 hown hE.1 hP 0 rfl rfl 7 (by decide) (hts _ qf_X1_21) (fun _ h9 => h9) rfl dX1_asAtFirst_13 ?_
        refine lv_iload_n hx hb dX1_asAtFirst_16 rfl (lv_at hl 2 rfl) ?_
        have hπi := hπ i (by omega)
        refine z_iald hx hb hE hP 1 rfl i (by omega) (by omega) (by first | decide | omega) ((π i : Nat) : Int) (hg i (by omega)) dX1_asAtFirst_17 ?_
        refine lv_iload_n hx hb dX1_asAtFirst_18 rfl (lv_at hl 2 rfl) ?_
        refine z_icmp_ne (tgt := 25) hx hb (by omega) dX1_asAtFirst_19 (by decide) (fun c_19 => ?_) (fun c_19 => ?_)
        · have hy2 : y = fb_ct (fun j => decide (π j = j)) (i + 1) := by rw [ct_f (by simp; omega)]; exact hy
          refine z_iinc (k := 2) (lv' := [(2, .int (zI (((i + 1) : Nat) : Int))), (0, .ref t), (1, .int (zI ((y : Nat) : Int)))]) hx hb (((i + 1) : Nat) : Int) (by omega) dX1_asAtFirst_25 hl rfl (by decide) rfl (fun ls hl => ?_)
          refine lv_goto (tgt := 4) hx hb dX1_asAtFirst_28 (by decide) ?_
          exact ih_4 (i + 1) y (by omega) (by omega) (by first | exact hy1 | exact hy2) _ _ _ hP hD hS (lv_sub hl [1, 2, 0] rfl)
        · have hy1 : y + 1 = fb_ct (fun j => decide (π j = j)) (i + 1) := by rw [ct_t (by simp; omega)]; omega
          refine z_iinc (k := 1) (lv' := [(1, .int (zI (((y + 1) : Nat) : Int))), (0, .ref t), (2, .int (zI ((i : Nat) : Int)))]) hx hb (((y + 1) : Nat) : Int) (by omega) dX1_asAtFirst_22 hl rfl (by decide) rfl (fun ls hl => ?_)
          refine z_iinc (k := 2) (lv' := [(2, .int (zI (((i + 1) : Nat) : Int))), (1, .int (zI (((y + 1) : Nat) : Int))), (0, .ref t)]) hx hb (((i + 1) : Nat) : Int) (by omega) dX1_asAtFirst_25 hl rfl (by decide) rfl (fun ls hl => ?_)
          refine lv_goto (tgt := 4) hx hb dX1_asAtFirst_28 (by decide) ?_
          exact ih_4 (i + 1) (y + 1) (by omega) (by omega) (by first | exact hy1 | exact hy2) _ _ _ hP hD hS (lv_sub hl [2, 1, 0] rfl)
  exact cut_4 (n - 0 + 1) 0 0 (Nat.lt_succ_self _) (by omega) (by rfl) _ _ _ hP hD hS (lv_sub hl [2, 1, 0] rfl)
set_option maxHeartbeats 4000000 in
set_option maxRecDepth 100000 in
theorem c_X1_asAtFirstBehind (l : Launch) (D : va_G) (cI : ClassId) (t : Nat) (a : Nat → Nat) (n k d v : Nat) (g : Nat → Int) (π : Nat → Nat) (h wa : Nat) (wn : Int) (f : Nat → Int) (φ : Nat → Nat) (hn : n ≤ 12) (hg : ∀ j, j < n → g j = ((π j : Nat) : Int)) (hπ : ∀ j, j < n → π j < n) (hf : ∀ j, j < n → f j = ((φ j : Nat) : Int)) (hφ : ∀ j, j < n → φ j < n) : zMi l yX1_asAtFirstBehind cX1_asAtFirstBehind 4 (some .int) ({ frames := 0, cells := 0, slots := 0, locals := 0 }) D cI [.ref t, .ref h] [cT t a ((n : Nat) : Int) ((k : Nat) : Int) ((d : Nat) : Int) ((v : Nat) : Int), cR cI (a 3) 12 g, cW h wa wn, cR cI wa 12 f] (fun (z : Int) (u : Unit) => z = (((fb_ct (fun j => decide (π j = φ j)) n) : Nat) : Int)) (fun (u : Unit) => [cT t a ((n : Nat) : Int) ((k : Nat) : Int) ((d : Nat) : Int) ((v : Nat) : Int), cR cI (a 3) 12 g, cW h wa wn, cR cI wa 12 f]) := by
  intro sz
  refine zstart rfl (by decide) (Nat.le_of_ble_eq_true rfl) ?_
  intro p e s m below meth c ls K hnm hsz hP hD hS hl
  generalize hargs : ([.ref t, .ref h] : List Value).toArray = args at K ⊢
  generalize hQf : MQ below _ args s _ _ _ = Qf
  have K : zK p s m args meth c cX1_asAtFirstBehind 4 RX1 (some .int) D cI := K
  obtain ⟨hx, hb, hml, hown, hts, hE, -, -⟩ := id K
  have hA := zhA (ws0 := [cT t a ((n : Nat) : Int) ((k : Nat) : Int) ((d : Nat) : Int) ((v : Nat) : Int), cR cI (a 3) 12 g, cW h wa wn, cR cI wa 12 f]) hsz
  have hl : lv_has ls 4 [(0, .ref t), (1, .ref h)] := hl
  refine lv_iconst (v := zI 0) hx hb dX1_asAtFirstBehind_0 rfl ?_
  refine lv_istore_n (lv' := [(2, .int (zI 0)), (0, .ref t), (1, .ref h)]) hx hb dX1_asAtFirstBehind_1 rfl hl (by decide) rfl (fun ls hl => ?_)
  refine lv_iconst (v := zI 0) hx hb dX1_asAtFirstBehind_2 rfl ?_
  refine lv_istore_n (lv' := [(3, .int (zI 0)), (2, .int (zI 0)), (0, .ref t), (1, .ref h)]) hx hb dX1_asAtFirstBehind_3 rfl hl (by decide) rfl (fun ls hl => ?_)
  have cut_4 : ∀ (N_4 : Nat), ∀ (i y : Nat), n - i < N_4 → (i ≤ n) → (y = fb_ct (fun j => decide (π j = φ j)) i) → ∀ (H : Heap) (locs : List Loc) (ls : Array Slot), va_P D cls [cT t a ((n : Nat) : Int) ((k : Nat) : Int) ((d : Nat) : Int) ((v : Nat) : Int), cR cI (a 3) 12 g, cW h wa wn, cR cI wa 12 f] H → va_D (va_A [cT t a ((n : Nat) : Int) ((k : Nat) : Int) ((d : Nat) : Int) ((v : Nat) : Int), cR cI (a 3) 12 g, cW h wa wn, cR cI wa 12 f] sz) [cT t a ((n : Nat) : Int) ((k : Nat) : Int) ((d : Nat) : Int) ((v : Nat) : Int), cR cI (a 3) 12 g, cW h wa wn, cR cI wa 12 f] → va_S (va_A [cT t a ((n : Nat) : Int) ((k : Nat) : Int) ((d : Nat) : Int) ((v : Nat) : Int), cR cI (a 3) 12 g, cW h wa wn, cR cI wa 12 f] sz) s.heap H locs → lv_has ls 4 [(0, .ref t), (1, .ref h), (2, .int (zI ((y : Nat) : Int))), (3, .int (zI ((i : Nat) : Int)))] → W p l e ({ frames := 0, cells := 0, slots := 0, locals := 0 }) s m args below meth c H locs 0 0 Qf (F0 m 4 ls []) := by
    intro N_4
    induction N_4 with
    | zero => intro i y hm_4; exact absurd hm_4 (Nat.not_lt_zero _)
    | succ N_4 ih_4 =>
      intro i y hm_4 hi hy H locs ls hP hD hS hl
      refine lv_iload_n hx hb dX1_asAtFirstBehind_4 rfl (lv_at hl 3 rfl) ?_
      refine lv_aload_n hx hb dX1_asAtFirstBehind_5 rfl (lv_at hl 0 rfl) ?_
      refine va_get (D := D) (ci := 1) (v := .int (zI ((n : Nat) : Int))) (C := RX1) (T := TX1) (N := 11) hx hb hts inT_X1 hown hE.1 hP 0 rfl rfl 0 (by decide) (hts _ qf_X1_33) (fun _ h9 => h9) rfl dX1_asAtFirstBehind_6 ?_
      refine z_icmp_ge (tgt := 36) hx hb (by omega) dX1_asAtFirstBehind_9 (by decide) (fun c_9 => ?_) (fun c_9 => ?_)
      · refine lv_iload_n hx hb dX1_asAtFirstBehind_36 rfl (lv_at hl 2 rfl) ?_
        rw [← hQf]
        exact z_iret K hS () (by rw [hy, show i = n by omega]) hP hD dX1_asAtFirstBehind_37
      · refine lv_aload_n hx hb dX1_asAtFirstBehind_12 rfl (lv_at hl 0 rfl) ?_
        refine va_get (D := D) (ci := 1) (v := .ref (a 3)) (C := RX1) (T := TX1) (N := 11) hx hb hts inT_X1 hown hE.1 hP 0 rfl rfl 7 (by decide) (hts _ qf_X1_21) (fun _ h9 => h9) rfl dX1_asAtFirstBehind_13 ?_
        refine lv_iload_n hx hb dX1_asAtFirstBehind_16 rfl (lv_at hl 3 rfl) ?_
        have hπi := hπ i (by omega)
        refine z_iald hx hb hE hP 1 rfl i (by omega) (by omega) (by first | decide | omega) ((π i : Nat) : Int) (hg i (by omega)) dX1_asAtFirstBehind_17 ?_
        refine lv_aload_n hx hb dX1_asAtFirstBehind_18 rfl (lv_at hl 1 rfl) ?_
        refine va_getN (D := D) (ci := 2) (v := .ref wa) (C := RX2) (T := TX2) (N := 2) hx hb hts inT_X2 hown hE.1 hP 2 rfl rfl 1 (by decide) (va_Nw.use rfl (hE.2 _ nf_X1_59 rfl)) (fun _ h9 => h9) rfl dX1_asAtFirstBehind_19 ?_
        refine lv_iload_n hx hb dX1_asAtFirstBehind_22 rfl (lv_at hl 3 rfl) ?_
        have hφi := hφ i (by omega)
        refine z_iald hx hb hE hP 3 rfl i (by omega) (by omega) (by first | decide | omega) ((φ i : Nat) : Int) (hf i (by omega)) dX1_asAtFirstBehind_23 ?_
        refine z_icmp_ne (tgt := 30) hx hb (by omega) dX1_asAtFirstBehind_24 (by decide) (fun c_24 => ?_) (fun c_24 => ?_)
        · have hy2 : y = fb_ct (fun j => decide (π j = φ j)) (i + 1) := by rw [ct_f (by simp; omega)]; exact hy
          refine z_iinc (k := 3) (lv' := [(3, .int (zI (((i + 1) : Nat) : Int))), (0, .ref t), (1, .ref h), (2, .int (zI ((y : Nat) : Int)))]) hx hb (((i + 1) : Nat) : Int) (by omega) dX1_asAtFirstBehind_30 hl rfl (by decide) rfl (fun ls hl => ?_)
          refine lv_goto (tgt := 4) hx hb dX1_asAtFirstBehind_33 (by decide) ?_
          exact ih_4 (i + 1) y (by omega) (by omega) (by first | exact hy1 | exact hy2) _ _ _ hP hD hS (lv_sub hl [1, 2, 3, 0] rfl)
        · have hy1 : y + 1 = fb_ct (fun j => decide (π j = φ j)) (i + 1) := by rw [ct_t (by simp; omega)]; omega
          refine z_iinc (k := 2) (lv' := [(2, .int (zI (((y + 1) : Nat) : Int))), (0, .ref t), (1, .ref h), (3, .int (zI ((i : Nat) : Int)))]) hx hb (((y + 1) : Nat) : Int) (by omega) dX1_asAtFirstBehind_27 hl rfl (by decide) rfl (fun ls hl => ?_)
          refine z_iinc (k := 3) (lv' := [(3, .int (zI (((i + 1) : Nat) : Int))), (2, .int (zI (((y + 1) : Nat) : Int))), (0, .ref t), (1, .ref h)]) hx hb (((i + 1) : Nat) : Int) (by omega) dX1_asAtFirstBehind_30 hl rfl (by decide) rfl (fun ls hl => ?_)
          refine lv_goto (tgt := 4) hx hb dX1_asAtFirstBehind_33 (by decide) ?_
          exact ih_4 (i + 1) (y + 1) (by omega) (by omega) (by first | exact hy1 | exact hy2) _ _ _ hP hD hS (lv_sub hl [2, 3, 1, 0] rfl)
  exact cut_4 (n - 0 + 1) 0 0 (Nat.lt_succ_self _) (by omega) (by rfl) _ _ _ hP hD hS (lv_sub hl [2, 3, 1, 0] rfl)
set_option maxHeartbeats 4000000 in
set_option maxRecDepth 100000 in
theorem c_X1_topBehind (l : Launch) (D : va_G) (cI : ClassId) (t : Nat) (a : Nat → Nat) (n k d v : Nat) (g : Nat → Int) (π : Nat → Nat) (h wa : Nat) (wn : Int) (f : Nat → Int) (φ : Nat → Nat) (r0 : Nat) (hn : n ≤ 12) (hg : ∀ j, j < n → g j = ((π j : Nat) : Int)) (hπ : ∀ j, j < n → π j < n) (hf : ∀ j, j < n → f j = ((φ j : Nat) : Int)) (hφ : ∀ j, j < n → φ j < n) (hi0 : inj φ n) (hr0 : r0 < n) (hr1 : φ r0 = 0) : zMi l yX1_topBehind cX1_topBehind 3 (some .int) ({ frames := 0, cells := 0, slots := 0, locals := 0 }) D cI [.ref t, .ref h] [cT t a ((n : Nat) : Int) ((k : Nat) : Int) ((d : Nat) : Int) ((v : Nat) : Int), cR cI (a 3) 12 g, cW h wa wn, cR cI wa 12 f] (fun (z : Int) (u : Unit) => z = (((π r0) : Nat) : Int)) (fun (u : Unit) => [cT t a ((n : Nat) : Int) ((k : Nat) : Int) ((d : Nat) : Int) ((v : Nat) : Int), cR cI (a 3) 12 g, cW h wa wn, cR cI wa 12 f]) := by
  intro sz
  refine zstart rfl (by decide) (Nat.le_of_ble_eq_true rfl) ?_
  intro p e s m below meth c ls K hnm hsz hP hD hS hl
  generalize hargs : ([.ref t, .ref h] : List Value).toArray = args at K ⊢
  generalize hQf : MQ below _ args s _ _ _ = Qf
  have K : zK p s m args meth c cX1_topBehind 3 RX1 (some .int) D cI := K
  obtain ⟨hx, hb, hml, hown, hts, hE, -, -⟩ := id K
  have hA := zhA (ws0 := [cT t a ((n : Nat) : Int) ((k : Nat) : Int) ((d : Nat) : Int) ((v : Nat) : Int), cR cI (a 3) 12 g, cW h wa wn, cR cI wa 12 f]) hsz
  have hl : lv_has ls 3 [(0, .ref t), (1, .ref h)] := hl
  refine lv_iconst (v := zI 0) hx hb dX1_topBehind_0 rfl ?_
  refine lv_istore_n (lv' := [(2, .int (zI 0)), (0, .ref t), (1, .ref h)]) hx hb dX1_topBehind_1 rfl hl (by decide) rfl (fun ls hl => ?_)
  have cut_2 : ∀ (N_2 : Nat), ∀ (i : Nat), n - i < N_2 → (i ≤ r0) → ∀ (H : Heap) (locs : List Loc) (ls : Array Slot), va_P D cls [cT t a ((n : Nat) : Int) ((k : Nat) : Int) ((d : Nat) : Int) ((v : Nat) : Int), cR cI (a 3) 12 g, cW h wa wn, cR cI wa 12 f] H → va_D (va_A [cT t a ((n : Nat) : Int) ((k : Nat) : Int) ((d : Nat) : Int) ((v : Nat) : Int), cR cI (a 3) 12 g, cW h wa wn, cR cI wa 12 f] sz) [cT t a ((n : Nat) : Int) ((k : Nat) : Int) ((d : Nat) : Int) ((v : Nat) : Int), cR cI (a 3) 12 g, cW h wa wn, cR cI wa 12 f] → va_S (va_A [cT t a ((n : Nat) : Int) ((k : Nat) : Int) ((d : Nat) : Int) ((v : Nat) : Int), cR cI (a 3) 12 g, cW h wa wn, cR cI wa 12 f] sz) s.heap H locs → lv_has ls 3 [(0, .ref t), (1, .ref h), (2, .int (zI ((i : Nat) : Int)))] → W p l e ({ frames := 0, cells := 0, slots := 0, locals := 0 }) s m args below meth c H locs 0 0 Qf (F0 m 2 ls []) := by
    intro N_2
    induction N_2 with
    | zero => intro i hm_2; exact absurd hm_2 (Nat.not_lt_zero _)
    | succ N_2 ih_2 =>
      intro i hm_2 hi H locs ls hP hD hS hl
      refine lv_iload_n hx hb dX1_topBehind_2 rfl (lv_at hl 2 rfl) ?_
      refine lv_aload_n hx hb dX1_topBehind_3 rfl (lv_at hl 0 rfl) ?_
      refine va_get (D := D) (ci := 1) (v := .int (zI ((n : Nat) : Int))) (C := RX1) (T := TX1) (N := 11) hx hb hts inT_X1 hown hE.1 hP 0 rfl rfl 0 (by decide) (hts _ qf_X1_33) (fun _ h9 => h9) rfl dX1_topBehind_4 ?_
      refine z_icmp_ge (tgt := 32) hx hb (by omega) dX1_topBehind_7 (by decide) (fun c_7 => ?_) (fun c_7 => ?_)
      · exfalso; omega
      · refine lv_aload_n hx hb dX1_topBehind_10 rfl (lv_at hl 1 rfl) ?_
        refine va_getN (D := D) (ci := 2) (v := .ref wa) (C := RX2) (T := TX2) (N := 2) hx hb hts inT_X2 hown hE.1 hP 2 rfl rfl 1 (by decide) (va_Nw.use rfl (hE.2 _ nf_X1_59 rfl)) (fun _ h9 => h9) rfl dX1_topBehind_11 ?_
        refine lv_iload_n hx hb dX1_topBehind_14 rfl (lv_at hl 2 rfl) ?_
        have hφi := hφ i (by omega)
        refine z_iald hx hb hE hP 3 rfl i (by omega) (by omega) (by first | decide | omega) ((φ i : Nat) : Int) (hf i (by omega)) dX1_topBehind_15 ?_
        refine z_if_ne (tgt := 26) hx hb (by omega) dX1_topBehind_16 (by decide) (fun c_16 => ?_) (fun c_16 => ?_)
        · have hne : i ≠ r0 := fun h9 => c_16 (by rw [h9, hr1]; rfl)
          refine z_iinc (k := 2) (lv' := [(2, .int (zI (((i + 1) : Nat) : Int))), (0, .ref t), (1, .ref h)]) hx hb (((i + 1) : Nat) : Int) (by omega) dX1_topBehind_26 hl rfl (by decide) rfl (fun ls hl => ?_)
          refine lv_goto (tgt := 2) hx hb dX1_topBehind_29 (by decide) ?_
          exact ih_2 (i + 1) (by omega) (by omega) _ _ _ hP hD hS (lv_sub hl [1, 2, 0] rfl)
        · have heq : i = r0 := inj_eq hi0 (by omega) hr0 (by omega)
          subst heq
          refine lv_aload_n hx hb dX1_topBehind_19 rfl (lv_at hl 0 rfl) ?_
          refine va_get (D := D) (ci := 1) (v := .ref (a 3)) (C := RX1) (T := TX1) (N := 11) hx hb hts inT_X1 hown hE.1 hP 0 rfl rfl 7 (by decide) (hts _ qf_X1_21) (fun _ h9 => h9) rfl dX1_topBehind_20 ?_
          refine lv_iload_n hx hb dX1_topBehind_23 rfl (lv_at hl 2 rfl) ?_
          have hπi := hπ i (by omega)
          refine z_iald hx hb hE hP 1 rfl i (by omega) (by omega) (by first | decide | omega) ((π i : Nat) : Int) (hg i (by omega)) dX1_topBehind_24 ?_
          rw [← hQf]
          exact z_iret K hS () (by first | rfl | omega | (split <;> omega)) hP hD dX1_topBehind_25
  exact cut_2 (n - 0 + 1) 0 (Nat.lt_succ_self _) (by omega) _ _ _ hP hD hS (lv_sub hl [1, 2, 0] rfl)
set_option maxHeartbeats 4000000 in
set_option maxRecDepth 100000 in
theorem c_X1_wrongTwos (l : Launch) (D : va_G) (cI : ClassId) (t : Nat) (a : Nat → Nat) (n k d v : Nat) (g : Nat → Int) (π : Nat → Nat) (hn : n ≤ 12) (hg : ∀ j, j < n → g j = ((π j : Nat) : Int)) (hπ : ∀ j, j < n → π j < n) : zMi l yX1_wrongTwos cX1_wrongTwos 4 (some .int) ({ frames := 0, cells := 0, slots := 0, locals := 0 }) D cI [.ref t] [cT t a ((n : Nat) : Int) ((k : Nat) : Int) ((d : Nat) : Int) ((v : Nat) : Int), cR cI (a 3) 12 g] (fun (z : Int) (u : Unit) => z = (((fb_sm (fun b => fb_ct (fun a => decide (π b < π a)) b) n) : Nat) : Int)) (fun (u : Unit) => [cT t a ((n : Nat) : Int) ((k : Nat) : Int) ((d : Nat) : Int) ((v : Nat) : Int), cR cI (a 3) 12 g]) := by
  intro sz
  refine zstart rfl (by decide) (Nat.le_of_ble_eq_true rfl) ?_
  intro p e s m below meth c ls K hnm hsz hP hD hS hl
  generalize hargs : ([.ref t] : List Value).toArray = args at K ⊢
  generalize hQf : MQ below _ args s _ _ _ = Qf
  have K : zK p s m args meth c cX1_wrongTwos 4 RX1 (some .int) D cI := K
  obtain ⟨hx, hb, hml, hown, hts, hE, -, -⟩ := id K
  have hA := zhA (ws0 := [cT t a ((n : Nat) : Int) ((k : Nat) : Int) ((d : Nat) : Int) ((v : Nat) : Int), cR cI (a 3) 12 g]) hsz
  have hl : lv_has ls 4 [(0, .ref t)] := hl
  refine lv_iconst (v := zI 0) hx hb dX1_wrongTwos_0 rfl ?_
  refine lv_istore_n (lv' := [(1, .int (zI 0)), (0, .ref t)]) hx hb dX1_wrongTwos_1 rfl hl (by decide) rfl (fun ls hl => ?_)
  refine lv_iconst (v := zI 1) hx hb dX1_wrongTwos_2 rfl ?_
  refine lv_istore_n (lv' := [(2, .int (zI 1)), (1, .int (zI 0)), (0, .ref t)]) hx hb dX1_wrongTwos_3 rfl hl (by decide) rfl (fun ls hl => ?_)
  have cut_4 : ∀ (N_4 : Nat), ∀ (i y : Nat), n - i < N_4 → (1 ≤ i ∧ (i ≤ n ∨ i = 1)) → (y = fb_sm (fun b => fb_ct (fun a => decide (π b < π a)) b) i) → ∀ (H : Heap) (locs : List Loc) (ls : Array Slot), va_P D cls [cT t a ((n : Nat) : Int) ((k : Nat) : Int) ((d : Nat) : Int) ((v : Nat) : Int), cR cI (a 3) 12 g] H → va_D (va_A [cT t a ((n : Nat) : Int) ((k : Nat) : Int) ((d : Nat) : Int) ((v : Nat) : Int), cR cI (a 3) 12 g] sz) [cT t a ((n : Nat) : Int) ((k : Nat) : Int) ((d : Nat) : Int) ((v : Nat) : Int), cR cI (a 3) 12 g] → va_S (va_A [cT t a ((n : Nat) : Int) ((k : Nat) : Int) ((d : Nat) : Int) ((v : Nat) : Int), cR cI (a 3) 12 g] sz) s.heap H locs → lv_has ls 4 [(0, .ref t), (1, .int (zI ((y : Nat) : Int))), (2, .int (zI ((i : Nat) : Int)))] → W p l e ({ frames := 0, cells := 0, slots := 0, locals := 0 }) s m args below meth c H locs 0 0 Qf (F0 m 4 ls []) := by
    intro N_4
    induction N_4 with
    | zero => intro i y hm_4; exact absurd hm_4 (Nat.not_lt_zero _)
    | succ N_4 ih_4 =>
      intro i y hm_4 hi hy H locs ls hP hD hS hl
      refine lv_iload_n hx hb dX1_wrongTwos_4 rfl (lv_at hl 2 rfl) ?_
      refine lv_aload_n hx hb dX1_wrongTwos_5 rfl (lv_at hl 0 rfl) ?_
      refine va_get (D := D) (ci := 1) (v := .int (zI ((n : Nat) : Int))) (C := RX1) (T := TX1) (N := 11) hx hb hts inT_X1 hown hE.1 hP 0 rfl rfl 0 (by decide) (hts _ qf_X1_33) (fun _ h9 => h9) rfl dX1_wrongTwos_6 ?_
      refine z_icmp_ge (tgt := 49) hx hb (by omega) dX1_wrongTwos_9 (by decide) (fun c_9 => ?_) (fun c_9 => ?_)
      · refine lv_iload_n hx hb dX1_wrongTwos_49 rfl (lv_at hl 1 rfl) ?_
        rw [← hQf]
        exact z_iret K hS () (by rw [hy]; rcases (show i = n ∨ (i = 1 ∧ n = 0) by omega) with h9 | ⟨h9, h8⟩; rw [h9]; rw [h9, h8]; rfl) hP hD dX1_wrongTwos_50
      · refine lv_iconst (v := zI 0) hx hb dX1_wrongTwos_12 rfl ?_
        refine lv_istore_n (lv' := [(3, .int (zI 0)), (0, .ref t), (1, .int (zI ((y : Nat) : Int))), (2, .int (zI ((i : Nat) : Int)))]) hx hb dX1_wrongTwos_13 rfl hl (by decide) rfl (fun ls hl => ?_)
        have cut_14 : ∀ (N_14 : Nat), ∀ (j w : Nat), i - j < N_14 → (j ≤ i) → (w = y + fb_ct (fun a => decide (π i < π a)) j) → ∀ (H : Heap) (locs : List Loc) (ls : Array Slot), va_P D cls [cT t a ((n : Nat) : Int) ((k : Nat) : Int) ((d : Nat) : Int) ((v : Nat) : Int), cR cI (a 3) 12 g] H → va_D (va_A [cT t a ((n : Nat) : Int) ((k : Nat) : Int) ((d : Nat) : Int) ((v : Nat) : Int), cR cI (a 3) 12 g] sz) [cT t a ((n : Nat) : Int) ((k : Nat) : Int) ((d : Nat) : Int) ((v : Nat) : Int), cR cI (a 3) 12 g] → va_S (va_A [cT t a ((n : Nat) : Int) ((k : Nat) : Int) ((d : Nat) : Int) ((v : Nat) : Int), cR cI (a 3) 12 g] sz) s.heap H locs → lv_has ls 4 [(0, .ref t), (1, .int (zI ((w : Nat) : Int))), (2, .int (zI ((i : Nat) : Int))), (3, .int (zI ((j : Nat) : Int)))] → W p l e ({ frames := 0, cells := 0, slots := 0, locals := 0 }) s m args below meth c H locs 0 0 Qf (F0 m 14 ls []) := by
          intro N_14
          induction N_14 with
          | zero => intro j w hm_14; exact absurd hm_14 (Nat.not_lt_zero _)
          | succ N_14 ih_14 =>
            intro j w hm_14 hj hw H locs ls hP hD hS hl
            refine lv_iload_n hx hb dX1_wrongTwos_14 rfl (lv_at hl 3 rfl) ?_
            refine lv_iload_n hx hb dX1_wrongTwos_15 rfl (lv_at hl 2 rfl) ?_
            refine z_icmp_ge (tgt := 43) hx hb (by omega) dX1_wrongTwos_16 (by decide) (fun c_16 => ?_) (fun c_16 => ?_)
            · refine z_iinc (k := 2) (lv' := [(2, .int (zI (((i + 1) : Nat) : Int))), (0, .ref t), (1, .int (zI ((w : Nat) : Int))), (3, .int (zI ((j : Nat) : Int)))]) hx hb (((i + 1) : Nat) : Int) (by omega) dX1_wrongTwos_43 hl rfl (by decide) rfl (fun ls hl => ?_)
              refine lv_goto (tgt := 4) hx hb dX1_wrongTwos_46 (by decide) ?_
              exact ih_4 (i + 1) w (by omega) (by omega) (by rw [fb_sm_succ, ← hy, hw, show j = i by omega]) _ _ _ hP hD hS (lv_sub hl [1, 2, 0] rfl)
            · refine lv_aload_n hx hb dX1_wrongTwos_19 rfl (lv_at hl 0 rfl) ?_
              refine va_get (D := D) (ci := 1) (v := .ref (a 3)) (C := RX1) (T := TX1) (N := 11) hx hb hts inT_X1 hown hE.1 hP 0 rfl rfl 7 (by decide) (hts _ qf_X1_21) (fun _ h9 => h9) rfl dX1_wrongTwos_20 ?_
              refine lv_iload_n hx hb dX1_wrongTwos_23 rfl (lv_at hl 3 rfl) ?_
              have hπj := hπ j (by omega)
              refine z_iald hx hb hE hP 1 rfl j (by omega) (by omega) (by first | decide | omega) ((π j : Nat) : Int) (hg j (by omega)) dX1_wrongTwos_24 ?_
              refine lv_aload_n hx hb dX1_wrongTwos_25 rfl (lv_at hl 0 rfl) ?_
              refine va_get (D := D) (ci := 1) (v := .ref (a 3)) (C := RX1) (T := TX1) (N := 11) hx hb hts inT_X1 hown hE.1 hP 0 rfl rfl 7 (by decide) (hts _ qf_X1_21) (fun _ h9 => h9) rfl dX1_wrongTwos_26 ?_
              refine lv_iload_n hx hb dX1_wrongTwos_29 rfl (lv_at hl 2 rfl) ?_
              have hπi := hπ i (by omega)
              refine z_iald hx hb hE hP 1 rfl i (by omega) (by omega) (by first | decide | omega) ((π i : Nat) : Int) (hg i (by omega)) dX1_wrongTwos_30 ?_
              refine z_icmp_le (tgt := 37) hx hb (by omega) dX1_wrongTwos_31 (by decide) (fun c_31 => ?_) (fun c_31 => ?_)
              · have hw2 : w = y + fb_ct (fun a => decide (π i < π a)) (j + 1) := by rw [ct_f (by simp; omega)]; exact hw
                refine z_iinc (k := 3) (lv' := [(3, .int (zI (((j + 1) : Nat) : Int))), (0, .ref t), (1, .int (zI ((w : Nat) : Int))), (2, .int (zI ((i : Nat) : Int)))]) hx hb (((j + 1) : Nat) : Int) (by omega) dX1_wrongTwos_37 hl rfl (by decide) rfl (fun ls hl => ?_)
                refine lv_goto (tgt := 14) hx hb dX1_wrongTwos_40 (by decide) ?_
                exact ih_14 (j + 1) w (by omega) (by omega) (by first | exact hw1 | exact hw2) _ _ _ hP hD hS (lv_sub hl [1, 2, 3, 0] rfl)
              · have hw1 : w + 1 = y + fb_ct (fun a => decide (π i < π a)) (j + 1) := by rw [ct_t (by simp; omega)]; omega
                refine z_iinc (k := 1) (lv' := [(1, .int (zI (((w + 1) : Nat) : Int))), (0, .ref t), (2, .int (zI ((i : Nat) : Int))), (3, .int (zI ((j : Nat) : Int)))]) hx hb (((w + 1) : Nat) : Int) (by omega) dX1_wrongTwos_34 hl rfl (by decide) rfl (fun ls hl => ?_)
                refine z_iinc (k := 3) (lv' := [(3, .int (zI (((j + 1) : Nat) : Int))), (1, .int (zI (((w + 1) : Nat) : Int))), (0, .ref t), (2, .int (zI ((i : Nat) : Int)))]) hx hb (((j + 1) : Nat) : Int) (by omega) dX1_wrongTwos_37 hl rfl (by decide) rfl (fun ls hl => ?_)
                refine lv_goto (tgt := 14) hx hb dX1_wrongTwos_40 (by decide) ?_
                exact ih_14 (j + 1) (w + 1) (by omega) (by omega) (by first | exact hw1 | exact hw2) _ _ _ hP hD hS (lv_sub hl [2, 1, 3, 0] rfl)
        exact cut_14 (i - 0 + 1) 0 y (Nat.lt_succ_self _) (by omega) (by rfl) _ _ _ hP hD hS (lv_sub hl [1, 2, 3, 0] rfl)
  exact cut_4 (n - 1 + 1) 1 0 (Nat.lt_succ_self _) (by omega) (by rfl) _ _ _ hP hD hS (lv_sub hl [2, 1, 0] rfl)
set_option maxHeartbeats 4000000 in
set_option maxRecDepth 100000 in
theorem c_X1_addSeen (l : Launch) (D : va_G) (cI : ClassId) (t : Nat) (a : Nat → Nat) (n k d v : Nat) (g4 g5 g6 : Nat → Int) (x0 x1 x2 : Int) (hv : v < 6) : zMv l yX1_addSeen cX1_addSeen 4 none ({ frames := 0, cells := 0, slots := 0, locals := 0 }) D cI [.ref t, .int (zI x0), .int (zI x1), .int (zI x2)] [cT t a ((n : Nat) : Int) ((k : Nat) : Int) ((d : Nat) : Int) ((v : Nat) : Int), cR cI (a 4) 6 g4, cR cI (a 5) 6 g5, cR cI (a 6) 6 g6] (fun (u : Unit) => True) (fun (u : Unit) => [cT t a ((n : Nat) : Int) ((k : Nat) : Int) ((d : Nat) : Int) (((v + 1) : Nat) : Int), cR cI (a 4) 6 (zup g4 v x0), cR cI (a 5) 6 (zup g5 v x1), cR cI (a 6) 6 (zup g6 v x2)]) := by
  intro sz
  refine zstart rfl (by decide) (Nat.le_of_ble_eq_true rfl) ?_
  intro p e s m below meth c ls K hnm hsz hP hD hS hl
  generalize hargs : ([.ref t, .int (zI x0), .int (zI x1), .int (zI x2)] : List Value).toArray = args at K ⊢
  generalize hQf : MQ below _ args s _ _ _ = Qf
  have K : zK p s m args meth c cX1_addSeen 4 RX1 none D cI := K
  obtain ⟨hx, hb, hml, hown, hts, hE, -, -⟩ := id K
  have hA := zhA (ws0 := [cT t a ((n : Nat) : Int) ((k : Nat) : Int) ((d : Nat) : Int) ((v : Nat) : Int), cR cI (a 4) 6 g4, cR cI (a 5) 6 g5, cR cI (a 6) 6 g6]) hsz
  have hl : lv_has ls 4 [(0, .ref t), (1, .int (zI x0)), (2, .int (zI x1)), (3, .int (zI x2))] := hl
  refine lv_aload_n hx hb dX1_addSeen_0 rfl (lv_at hl 0 rfl) ?_
  refine va_get (D := D) (ci := 1) (v := .int (zI ((v : Nat) : Int))) (C := RX1) (T := TX1) (N := 11) hx hb hts inT_X1 hown hE.1 hP 0 rfl rfl 3 (by decide) (hts _ qf_X1_43) (fun _ h9 => h9) rfl dX1_addSeen_1 ?_
  refine lv_bipush (v := zI 6) hx hb dX1_addSeen_4 (by decide) ?_
  refine z_icmp_ge (tgt := 49) hx hb (by omega) dX1_addSeen_6 (by decide) (fun c_6 => ?_) (fun c_6 => ?_)
  · exfalso; omega
  · refine lv_aload_n hx hb dX1_addSeen_9 rfl (lv_at hl 0 rfl) ?_
    refine va_get (D := D) (ci := 1) (v := .ref (a 4)) (C := RX1) (T := TX1) (N := 11) hx hb hts inT_X1 hown hE.1 hP 0 rfl rfl 8 (by decide) (hts _ qf_X1_24) (fun _ h9 => h9) rfl dX1_addSeen_10 ?_
    refine lv_aload_n hx hb dX1_addSeen_13 rfl (lv_at hl 0 rfl) ?_
    refine va_get (D := D) (ci := 1) (v := .int (zI ((v : Nat) : Int))) (C := RX1) (T := TX1) (N := 11) hx hb hts inT_X1 hown hE.1 hP 0 rfl rfl 3 (by decide) (hts _ qf_X1_43) (fun _ h9 => h9) rfl dX1_addSeen_14 ?_
    refine lv_iload_n hx hb dX1_addSeen_17 rfl (lv_at hl 1 rfl) ?_
    refine z_iast hx hb hE hP hD hS 1 rfl v (by omega) (by omega) (by first | decide | omega) (zup g4 v x0) rfl dX1_addSeen_18 (fun H locs hP hD hS => ?_)
    have hP : va_P D cls [cT t a ((n : Nat) : Int) ((k : Nat) : Int) ((d : Nat) : Int) ((v : Nat) : Int), cR cI (a 4) 6 (zup g4 v x0), cR cI (a 5) 6 g5, cR cI (a 6) 6 g6] H := hP
    have hD : va_D (va_A [cT t a ((n : Nat) : Int) ((k : Nat) : Int) ((d : Nat) : Int) ((v : Nat) : Int), cR cI (a 4) 6 g4, cR cI (a 5) 6 g5, cR cI (a 6) 6 g6] sz) [cT t a ((n : Nat) : Int) ((k : Nat) : Int) ((d : Nat) : Int) ((v : Nat) : Int), cR cI (a 4) 6 (zup g4 v x0), cR cI (a 5) 6 g5, cR cI (a 6) 6 g6] := hD
    refine lv_aload_n hx hb dX1_addSeen_19 rfl (lv_at hl 0 rfl) ?_
    refine va_get (D := D) (ci := 1) (v := .ref (a 5)) (C := RX1) (T := TX1) (N := 11) hx hb hts inT_X1 hown hE.1 hP 0 rfl rfl 9 (by decide) (hts _ qf_X1_27) (fun _ h9 => h9) rfl dX1_addSeen_20 ?_
    refine lv_aload_n hx hb dX1_addSeen_23 rfl (lv_at hl 0 rfl) ?_
    refine va_get (D := D) (ci := 1) (v := .int (zI ((v : Nat) : Int))) (C := RX1) (T := TX1) (N := 11) hx hb hts inT_X1 hown hE.1 hP 0 rfl rfl 3 (by decide) (hts _ qf_X1_43) (fun _ h9 => h9) rfl dX1_addSeen_24 ?_
    refine lv_iload_n hx hb dX1_addSeen_27 rfl (lv_at hl 2 rfl) ?_
    refine z_iast hx hb hE hP hD hS 2 rfl v (by omega) (by omega) (by first | decide | omega) (zup g5 v x1) rfl dX1_addSeen_28 (fun H locs hP hD hS => ?_)
    have hP : va_P D cls [cT t a ((n : Nat) : Int) ((k : Nat) : Int) ((d : Nat) : Int) ((v : Nat) : Int), cR cI (a 4) 6 (zup g4 v x0), cR cI (a 5) 6 (zup g5 v x1), cR cI (a 6) 6 g6] H := hP
    have hD : va_D (va_A [cT t a ((n : Nat) : Int) ((k : Nat) : Int) ((d : Nat) : Int) ((v : Nat) : Int), cR cI (a 4) 6 g4, cR cI (a 5) 6 g5, cR cI (a 6) 6 g6] sz) [cT t a ((n : Nat) : Int) ((k : Nat) : Int) ((d : Nat) : Int) ((v : Nat) : Int), cR cI (a 4) 6 (zup g4 v x0), cR cI (a 5) 6 (zup g5 v x1), cR cI (a 6) 6 g6] := hD
    refine lv_aload_n hx hb dX1_addSeen_29 rfl (lv_at hl 0 rfl) ?_
    refine va_get (D := D) (ci := 1) (v := .ref (a 6)) (C := RX1) (T := TX1) (N := 11) hx hb hts inT_X1 hown hE.1 hP 0 rfl rfl 10 (by decide) (hts _ qf_X1_30) (fun _ h9 => h9) rfl dX1_addSeen_30 ?_
    refine lv_aload_n hx hb dX1_addSeen_33 rfl (lv_at hl 0 rfl) ?_
    refine va_get (D := D) (ci := 1) (v := .int (zI ((v : Nat) : Int))) (C := RX1) (T := TX1) (N := 11) hx hb hts inT_X1 hown hE.1 hP 0 rfl rfl 3 (by decide) (hts _ qf_X1_43) (fun _ h9 => h9) rfl dX1_addSeen_34 ?_
    refine lv_iload_n hx hb dX1_addSeen_37 rfl (lv_at hl 3 rfl) ?_
    refine z_iast hx hb hE hP hD hS 3 rfl v (by omega) (by omega) (by first | decide | omega) (zup g6 v x2) rfl dX1_addSeen_38 (fun H locs hP hD hS => ?_)
    have hP : va_P D cls [cT t a ((n : Nat) : Int) ((k : Nat) : Int) ((d : Nat) : Int) ((v : Nat) : Int), cR cI (a 4) 6 (zup g4 v x0), cR cI (a 5) 6 (zup g5 v x1), cR cI (a 6) 6 (zup g6 v x2)] H := hP
    have hD : va_D (va_A [cT t a ((n : Nat) : Int) ((k : Nat) : Int) ((d : Nat) : Int) ((v : Nat) : Int), cR cI (a 4) 6 g4, cR cI (a 5) 6 g5, cR cI (a 6) 6 g6] sz) [cT t a ((n : Nat) : Int) ((k : Nat) : Int) ((d : Nat) : Int) ((v : Nat) : Int), cR cI (a 4) 6 (zup g4 v x0), cR cI (a 5) 6 (zup g5 v x1), cR cI (a 6) 6 (zup g6 v x2)] := hD
    refine lv_aload_n hx hb dX1_addSeen_39 rfl (lv_at hl 0 rfl) ?_
    refine lv_dup hx hb dX1_addSeen_40 rfl ?_
    refine va_get (D := D) (ci := 1) (v := .int (zI ((v : Nat) : Int))) (C := RX1) (T := TX1) (N := 11) hx hb hts inT_X1 hown hE.1 hP 0 rfl rfl 3 (by decide) (hts _ qf_X1_43) (fun _ h9 => h9) rfl dX1_addSeen_41 ?_
    refine lv_iconst (v := zI 1) hx hb dX1_addSeen_44 rfl ?_
    refine z_iadd hx hb (((v + 1) : Nat) : Int) (by omega) dX1_addSeen_45 ?_
    refine va_put (D := D) (ci := 1) (v := .int (zI (((v + 1) : Nat) : Int))) (ty := .int) (C := RX1) (T := TX1) (N := 11) hx hb hts inT_X1 tyX1 tyX1_ok nmX1 hown hE.1 hP hD hS 0 rfl rfl 3 (by decide) (hts _ qf_X1_43) (fun _ h9 => h9) rfl (by decide +kernel) rfl rfl (Nat.le_of_ble_eq_true rfl) dX1_addSeen_46 (fun H locs hP hD hS => ?_)
    have hP : va_P D cls [cT t a ((n : Nat) : Int) ((k : Nat) : Int) ((d : Nat) : Int) (((v + 1) : Nat) : Int), cR cI (a 4) 6 (zup g4 v x0), cR cI (a 5) 6 (zup g5 v x1), cR cI (a 6) 6 (zup g6 v x2)] H := hP
    have hD : va_D (va_A [cT t a ((n : Nat) : Int) ((k : Nat) : Int) ((d : Nat) : Int) ((v : Nat) : Int), cR cI (a 4) 6 g4, cR cI (a 5) 6 g5, cR cI (a 6) 6 g6] sz) [cT t a ((n : Nat) : Int) ((k : Nat) : Int) ((d : Nat) : Int) (((v + 1) : Nat) : Int), cR cI (a 4) 6 (zup g4 v x0), cR cI (a 5) 6 (zup g5 v x1), cR cI (a 6) 6 (zup g6 v x2)] := hD
    rw [← hQf]
    exact z_vret K hS () trivial hP hD dX1_addSeen_49
set_option maxHeartbeats 4000000 in
set_option maxRecDepth 100000 in
theorem c_X1_agreesWithSeen (l : Launch) (D : va_G) (cI : ClassId) (t : Nat) (a : Nat → Nat) (n k d v : Nat) (g0 g4 g5 g6 : Nat → Int) (κ ss sf st : Nat → Nat) (j0 : Nat) (nm : Nat) (hn : 2 ≤ n ∧ n ≤ 12) (hk : k ≤ 6) (hj0 : j0 < k) (hv : v ≤ 6) (hg0 : ∀ j, j < k → g0 j = ((κ j : Nat) : Int)) (hκ : ∀ j, j < k → κ j ≤ 4) (hg4 : ∀ j, j < v → g4 j = ((ss j : Nat) : Int)) (hg5 : ∀ j, j < v → g5 j = ((sf j : Nat) : Int)) (hg6 : ∀ j, j < v → g6 j = ((st j : Nat) : Int)) (hss : ∀ j, j < v → ss j < k) (hsf : ∀ j, j < v → sf j < n) (hst : ∀ j, j < v → st j < n) (hnm0 : nm ≤ 9) : zMi l yX1_agreesWithSeen cX1_agreesWithSeen 4 (some .boolean) ({ frames := 3, cells := 0, slots := 0, locals := 74 }) D cI [.ref t, .int (zI ((j0 : Nat) : Int)), .int (zI ((nm : Nat) : Int))] [cT t a ((n : Nat) : Int) ((k : Nat) : Int) ((d : Nat) : Int) ((v : Nat) : Int), cR cI (a 0) 6 g0, cR cI (a 4) 6 g4, cR cI (a 5) 6 g5, cR cI (a 6) 6 g6] (fun (z : Int) (u : Unit) => z = (b01 (agB n (κ j0) nm ss sf st j0 v = true))) (fun (u : Unit) => [cT t a ((n : Nat) : Int) ((k : Nat) : Int) ((d : Nat) : Int) ((v : Nat) : Int), cR cI (a 0) 6 g0, cR cI (a 4) 6 g4, cR cI (a 5) 6 g5, cR cI (a 6) 6 g6]) := by
  intro sz
  refine zstart rfl (by decide) (Nat.le_of_ble_eq_true rfl) ?_
  intro p e s m below meth c ls K hnm hsz hP hD hS hl
  generalize hargs : ([.ref t, .int (zI ((j0 : Nat) : Int)), .int (zI ((nm : Nat) : Int))] : List Value).toArray = args at K ⊢
  generalize hQf : MQ below _ args s _ _ _ = Qf
  have K : zK p s m args meth c cX1_agreesWithSeen 4 RX1 (some .boolean) D cI := K
  obtain ⟨hx, hb, hml, hown, hts, hE, -, -⟩ := id K
  have hA := zhA (ws0 := [cT t a ((n : Nat) : Int) ((k : Nat) : Int) ((d : Nat) : Int) ((v : Nat) : Int), cR cI (a 0) 6 g0, cR cI (a 4) 6 g4, cR cI (a 5) 6 g5, cR cI (a 6) 6 g6]) hsz
  have hl : lv_has ls 4 [(0, .ref t), (1, .int (zI ((j0 : Nat) : Int))), (2, .int (zI ((nm : Nat) : Int)))] := hl
  refine lv_iconst (v := zI 0) hx hb dX1_agreesWithSeen_0 rfl ?_
  refine lv_istore_n (lv' := [(3, .int (zI 0)), (0, .ref t), (1, .int (zI ((j0 : Nat) : Int))), (2, .int (zI ((nm : Nat) : Int)))]) hx hb dX1_agreesWithSeen_1 rfl hl (by decide) rfl (fun ls hl => ?_)
  have cut_2 : ∀ (N_2 : Nat), ∀ (i : Nat), v - i < N_2 → (i ≤ v) → (agB n (κ j0) nm ss sf st j0 i = true) → ∀ (H : Heap) (locs : List Loc) (ls : Array Slot), va_P D cls [cT t a ((n : Nat) : Int) ((k : Nat) : Int) ((d : Nat) : Int) ((v : Nat) : Int), cR cI (a 0) 6 g0, cR cI (a 4) 6 g4, cR cI (a 5) 6 g5, cR cI (a 6) 6 g6] H → va_D (va_A [cT t a ((n : Nat) : Int) ((k : Nat) : Int) ((d : Nat) : Int) ((v : Nat) : Int), cR cI (a 0) 6 g0, cR cI (a 4) 6 g4, cR cI (a 5) 6 g5, cR cI (a 6) 6 g6] sz) [cT t a ((n : Nat) : Int) ((k : Nat) : Int) ((d : Nat) : Int) ((v : Nat) : Int), cR cI (a 0) 6 g0, cR cI (a 4) 6 g4, cR cI (a 5) 6 g5, cR cI (a 6) 6 g6] → va_S (va_A [cT t a ((n : Nat) : Int) ((k : Nat) : Int) ((d : Nat) : Int) ((v : Nat) : Int), cR cI (a 0) 6 g0, cR cI (a 4) 6 g4, cR cI (a 5) 6 g5, cR cI (a 6) 6 g6] sz) s.heap H locs → lv_has ls 4 [(0, .ref t), (1, .int (zI ((j0 : Nat) : Int))), (2, .int (zI ((nm : Nat) : Int))), (3, .int (zI ((i : Nat) : Int)))] → W p l e ({ frames := 3, cells := 0, slots := 0, locals := 74 }) s m args below meth c H locs 0 0 Qf (F0 m 2 ls []) := by
    intro N_2
    induction N_2 with
    | zero => intro i hm_2; exact absurd hm_2 (Nat.not_lt_zero _)
    | succ N_2 ih_2 =>
      intro i hm_2 hi hag H locs ls hP hD hS hl
      refine lv_iload_n hx hb dX1_agreesWithSeen_2 rfl (lv_at hl 3 rfl) ?_
      refine lv_aload_n hx hb dX1_agreesWithSeen_3 rfl (lv_at hl 0 rfl) ?_
      refine va_get (D := D) (ci := 1) (v := .int (zI ((v : Nat) : Int))) (C := RX1) (T := TX1) (N := 11) hx hb hts inT_X1 hown hE.1 hP 0 rfl rfl 3 (by decide) (hts _ qf_X1_43) (fun _ h9 => h9) rfl dX1_agreesWithSeen_4 ?_
      refine z_icmp_ge (tgt := 57) hx hb (by omega) dX1_agreesWithSeen_7 (by decide) (fun c_7 => ?_) (fun c_7 => ?_)
      · refine lv_iconst (v := zI 1) hx hb dX1_agreesWithSeen_57 rfl ?_
        rw [← hQf]
        exact z_bret K hS () (by exact (b01_t (by rw [← hag, show i = v by omega])).symm) (by omega) hP hD dX1_agreesWithSeen_58
      · refine lv_aload_n hx hb dX1_agreesWithSeen_10 rfl (lv_at hl 0 rfl) ?_
        refine va_get (D := D) (ci := 1) (v := .ref (a 4)) (C := RX1) (T := TX1) (N := 11) hx hb hts inT_X1 hown hE.1 hP 0 rfl rfl 8 (by decide) (hts _ qf_X1_24) (fun _ h9 => h9) rfl dX1_agreesWithSeen_11 ?_
        refine lv_iload_n hx hb dX1_agreesWithSeen_14 rfl (lv_at hl 3 rfl) ?_
        have h1 := hss i (by omega)
        have h2 := hsf i (by omega)
        have h3 := hst i (by omega)
        have h4 := hκ j0 hj0
        refine z_iald hx hb hE hP 2 rfl i (by omega) (by omega) (by first | decide | omega) ((ss i : Nat) : Int) (hg4 i (by omega)) dX1_agreesWithSeen_15 ?_
        refine lv_iload_n hx hb dX1_agreesWithSeen_16 rfl (lv_at hl 1 rfl) ?_
        refine z_icmp_ne (tgt := 51) hx hb (by omega) dX1_agreesWithSeen_17 (by decide) (fun c_17 => ?_) (fun c_17 => ?_)
        · have hag1 : agB n (κ j0) nm ss sf st j0 (i + 1) = true := agB_t hag (Or.inl (by omega))
          refine z_iinc (k := 3) (lv' := [(3, .int (zI (((i + 1) : Nat) : Int))), (0, .ref t), (1, .int (zI ((j0 : Nat) : Int))), (2, .int (zI ((nm : Nat) : Int)))]) hx hb (((i + 1) : Nat) : Int) (by omega) dX1_agreesWithSeen_51 hl rfl (by decide) rfl (fun ls hl => ?_)
          refine lv_goto (tgt := 2) hx hb dX1_agreesWithSeen_54 (by decide) ?_
          exact ih_2 (i + 1) (by omega) (by omega) (by first | exact hag1 | exact hag2) _ _ _ hP hD hS (lv_sub hl [1, 2, 3, 0] rfl)
        · refine lv_aload_n hx hb dX1_agreesWithSeen_20 rfl (lv_at hl 0 rfl) ?_
          refine va_get (D := D) (ci := 1) (v := .ref (a 0)) (C := RX1) (T := TX1) (N := 11) hx hb hts inT_X1 hown hE.1 hP 0 rfl rfl 4 (by decide) (hts _ qf_X1_9) (fun _ h9 => h9) rfl dX1_agreesWithSeen_21 ?_
          refine lv_iload_n hx hb dX1_agreesWithSeen_24 rfl (lv_at hl 1 rfl) ?_
          refine z_iald hx hb hE hP 1 rfl j0 (by omega) (by omega) (by first | decide | omega) ((κ j0 : Nat) : Int) (hg0 j0 hj0) dX1_agreesWithSeen_25 ?_
          refine lv_iload_n hx hb dX1_agreesWithSeen_26 rfl (lv_at hl 2 rfl) ?_
          refine lv_aload_n hx hb dX1_agreesWithSeen_27 rfl (lv_at hl 0 rfl) ?_
          refine va_get (D := D) (ci := 1) (v := .int (zI ((n : Nat) : Int))) (C := RX1) (T := TX1) (N := 11) hx hb hts inT_X1 hown hE.1 hP 0 rfl rfl 0 (by decide) (hts _ qf_X1_33) (fun _ h9 => h9) rfl dX1_agreesWithSeen_28 ?_
          refine lv_aload_n hx hb dX1_agreesWithSeen_31 rfl (lv_at hl 0 rfl) ?_
          refine va_get (D := D) (ci := 1) (v := .ref (a 5)) (C := RX1) (T := TX1) (N := 11) hx hb hts inT_X1 hown hE.1 hP 0 rfl rfl 9 (by decide) (hts _ qf_X1_27) (fun _ h9 => h9) rfl dX1_agreesWithSeen_32 ?_
          refine lv_iload_n hx hb dX1_agreesWithSeen_35 rfl (lv_at hl 3 rfl) ?_
          refine z_iald hx hb hE hP 3 rfl i (by omega) (by omega) (by first | decide | omega) ((sf i : Nat) : Int) (hg5 i (by omega)) dX1_agreesWithSeen_36 ?_
          refine zcall_i (wc := []) (wr := [cT t a ((n : Nat) : Int) ((k : Nat) : Int) ((d : Nat) : Int) ((v : Nat) : Int), cR cI (a 0) 6 g0, cR cI (a 4) 6 g4, cR cI (a 5) 6 g5, cR cI (a 6) 6 g6]) (rest := []) hE hP hD hS hA [] [0, 1, 2, 3, 4] [0, 1, 2, 3, 4] rfl rfl (by decide) (by decide) (by decide) (fun (u : Unit) => [cT t a ((n : Nat) : Int) ((k : Nat) : Int) ((d : Nat) : Int) ((v : Nat) : Int), cR cI (a 0) 6 g0, cR cI (a 4) 6 g4, cR cI (a 5) 6 g5, cR cI (a 6) 6 g6]) (fun u => rfl) (fun hPc hDc => zrunSN (As := [.int (zI ((κ j0 : Nat) : Int)), .int (zI ((nm : Nat) : Int)), .int (zI ((n : Nat) : Int)), .int (zI ((sf i : Nat) : Int))]) (rest := []) K k_X3_moved nk_X1_55 ⟨⟨rfl, rfl⟩, ⟨Nat.le_of_ble_eq_true rfl, Nat.le_of_ble_eq_true rfl⟩⟩ hPc hDc (c_X3_moved l D cI (κ j0) nm n (sf i) (by first | assumption | omega) (by first | assumption | omega) (by first | assumption | omega) (by first | assumption | omega) _) rfl hl.1 rfl (Nat.le_of_ble_eq_true rfl) dX1_agreesWithSeen_37 ⟨Nat.zero_le _, Nat.zero_le _⟩) (by decide) (fun z u H locs hpost hP hD hS => ?_)
          subst hpost
          have hP : va_P D cls [cT t a ((n : Nat) : Int) ((k : Nat) : Int) ((d : Nat) : Int) ((v : Nat) : Int), cR cI (a 0) 6 g0, cR cI (a 4) 6 g4, cR cI (a 5) 6 g5, cR cI (a 6) 6 g6] H := hP
          have hD : va_D (va_A [cT t a ((n : Nat) : Int) ((k : Nat) : Int) ((d : Nat) : Int) ((v : Nat) : Int), cR cI (a 0) 6 g0, cR cI (a 4) 6 g4, cR cI (a 5) 6 g5, cR cI (a 6) 6 g6] sz) [cT t a ((n : Nat) : Int) ((k : Nat) : Int) ((d : Nat) : Int) ((v : Nat) : Int), cR cI (a 0) 6 g0, cR cI (a 4) 6 g4, cR cI (a 5) 6 g5, cR cI (a 6) 6 g6] := hD
          refine W.eq (g2 := F0 m 40 ls [.int (zI (((mv n (κ j0) nm (sf i)) : Nat) : Int))]) rfl ?_
          refine lv_aload_n hx hb dX1_agreesWithSeen_40 rfl (lv_at hl 0 rfl) ?_
          refine va_get (D := D) (ci := 1) (v := .ref (a 6)) (C := RX1) (T := TX1) (N := 11) hx hb hts inT_X1 hown hE.1 hP 0 rfl rfl 10 (by decide) (hts _ qf_X1_30) (fun _ h9 => h9) rfl dX1_agreesWithSeen_41 ?_
          refine lv_iload_n hx hb dX1_agreesWithSeen_44 rfl (lv_at hl 3 rfl) ?_
          have h5 := mv_lt (n := n) (kd := κ j0) (nm := nm) (p := sf i) hn.2 h4 hnm0 h2
          refine z_iald hx hb hE hP 4 rfl i (by omega) (by omega) (by first | decide | omega) ((st i : Nat) : Int) (hg6 i (by omega)) dX1_agreesWithSeen_45 ?_
          refine z_icmp_eq (tgt := 51) hx hb (by omega) dX1_agreesWithSeen_46 (by decide) (fun c_46 => ?_) (fun c_46 => ?_)
          · have hag2 : agB n (κ j0) nm ss sf st j0 (i + 1) = true := agB_t hag (Or.inr (by omega))
            refine z_iinc (k := 3) (lv' := [(3, .int (zI (((i + 1) : Nat) : Int))), (0, .ref t), (1, .int (zI ((j0 : Nat) : Int))), (2, .int (zI ((nm : Nat) : Int)))]) hx hb (((i + 1) : Nat) : Int) (by omega) dX1_agreesWithSeen_51 hl rfl (by decide) rfl (fun ls hl => ?_)
            refine lv_goto (tgt := 2) hx hb dX1_agreesWithSeen_54 (by decide) ?_
            exact ih_2 (i + 1) (by omega) (by omega) (by first | exact hag1 | exact hag2) _ _ _ hP hD hS (lv_sub hl [1, 2, 3, 0] rfl)
          · refine lv_iconst (v := zI 0) hx hb dX1_agreesWithSeen_49 rfl ?_
            rw [← hQf]
            exact z_bret K hS () (by exact (b01_f (by rw [agB_f (i := i) (by omega) (by omega) v (by omega)]; decide)).symm) (by omega) hP hD dX1_agreesWithSeen_50
  exact cut_2 (v - 0 + 1) 0 (Nat.lt_succ_self _) (by omega) (by rfl) _ _ _ hP hD hS (lv_sub hl [1, 2, 3, 0] rfl)
set_option maxHeartbeats 4000000 in
set_option maxRecDepth 100000 in
theorem c_X1_possibleNumbers (l : Launch) (D : va_G) (cI : ClassId) (t : Nat) (a : Nat → Nat) (n k d v : Nat) (g0 g4 g5 g6 : Nat → Int) (κ ss sf st : Nat → Nat) (j0 : Nat) (hn : 2 ≤ n ∧ n ≤ 12) (hk : k ≤ 6) (hj0 : j0 < k) (hv : v ≤ 6) (hg0 : ∀ j, j < k → g0 j = ((κ j : Nat) : Int)) (hκ : ∀ j, j < k → κ j ≤ 4) (hg4 : ∀ j, j < v → g4 j = ((ss j : Nat) : Int)) (hg5 : ∀ j, j < v → g5 j = ((sf j : Nat) : Int)) (hg6 : ∀ j, j < v → g6 j = ((st j : Nat) : Int)) (hss : ∀ j, j < v → ss j < k) (hsf : ∀ j, j < v → sf j < n) (hst : ∀ j, j < v → st j < n) : zMi l yX1_possibleNumbers cX1_possibleNumbers 4 (some .int) ({ frames := 4, cells := 0, slots := 0, locals := 97 }) D cI [.ref t, .int (zI ((j0 : Nat) : Int))] [cT t a ((n : Nat) : Int) ((k : Nat) : Int) ((d : Nat) : Int) ((v : Nat) : Int), cR cI (a 0) 6 g0, cR cI (a 4) 6 g4, cR cI (a 5) 6 g5, cR cI (a 6) 6 g6] (fun (z : Int) (u : Unit) => z = (((btN (fun nm => agB n (κ j0) nm ss sf st j0 v) 10) : Nat) : Int)) (fun (u : Unit) => [cT t a ((n : Nat) : Int) ((k : Nat) : Int) ((d : Nat) : Int) ((v : Nat) : Int), cR cI (a 0) 6 g0, cR cI (a 4) 6 g4, cR cI (a 5) 6 g5, cR cI (a 6) 6 g6]) := by
  intro sz
  refine zstart rfl (by decide) (Nat.le_of_ble_eq_true rfl) ?_
  intro p e s m below meth c ls K hnm hsz hP hD hS hl
  generalize hargs : ([.ref t, .int (zI ((j0 : Nat) : Int))] : List Value).toArray = args at K ⊢
  generalize hQf : MQ below _ args s _ _ _ = Qf
  have K : zK p s m args meth c cX1_possibleNumbers 4 RX1 (some .int) D cI := K
  obtain ⟨hx, hb, hml, hown, hts, hE, -, -⟩ := id K
  have hA := zhA (ws0 := [cT t a ((n : Nat) : Int) ((k : Nat) : Int) ((d : Nat) : Int) ((v : Nat) : Int), cR cI (a 0) 6 g0, cR cI (a 4) 6 g4, cR cI (a 5) 6 g5, cR cI (a 6) 6 g6]) hsz
  have hl : lv_has ls 4 [(0, .ref t), (1, .int (zI ((j0 : Nat) : Int)))] := hl
  refine lv_iconst (v := zI 0) hx hb dX1_possibleNumbers_0 rfl ?_
  refine lv_istore_n (lv' := [(2, .int (zI 0)), (0, .ref t), (1, .int (zI ((j0 : Nat) : Int)))]) hx hb dX1_possibleNumbers_1 rfl hl (by decide) rfl (fun ls hl => ?_)
  refine lv_iconst (v := zI 0) hx hb dX1_possibleNumbers_2 rfl ?_
  refine lv_istore_n (lv' := [(3, .int (zI 0)), (2, .int (zI 0)), (0, .ref t), (1, .int (zI ((j0 : Nat) : Int)))]) hx hb dX1_possibleNumbers_3 rfl hl (by decide) rfl (fun ls hl => ?_)
  have cut_4 : ∀ (N_4 : Nat), ∀ (i y : Nat), 10 - i < N_4 → (i ≤ 10) → (y = btN (fun nm => agB n (κ j0) nm ss sf st j0 v) i) → ∀ (H : Heap) (locs : List Loc) (ls : Array Slot), va_P D cls [cT t a ((n : Nat) : Int) ((k : Nat) : Int) ((d : Nat) : Int) ((v : Nat) : Int), cR cI (a 0) 6 g0, cR cI (a 4) 6 g4, cR cI (a 5) 6 g5, cR cI (a 6) 6 g6] H → va_D (va_A [cT t a ((n : Nat) : Int) ((k : Nat) : Int) ((d : Nat) : Int) ((v : Nat) : Int), cR cI (a 0) 6 g0, cR cI (a 4) 6 g4, cR cI (a 5) 6 g5, cR cI (a 6) 6 g6] sz) [cT t a ((n : Nat) : Int) ((k : Nat) : Int) ((d : Nat) : Int) ((v : Nat) : Int), cR cI (a 0) 6 g0, cR cI (a 4) 6 g4, cR cI (a 5) 6 g5, cR cI (a 6) 6 g6] → va_S (va_A [cT t a ((n : Nat) : Int) ((k : Nat) : Int) ((d : Nat) : Int) ((v : Nat) : Int), cR cI (a 0) 6 g0, cR cI (a 4) 6 g4, cR cI (a 5) 6 g5, cR cI (a 6) 6 g6] sz) s.heap H locs → lv_has ls 4 [(0, .ref t), (1, .int (zI ((j0 : Nat) : Int))), (2, .int (zI ((y : Nat) : Int))), (3, .int (zI ((i : Nat) : Int)))] → W p l e ({ frames := 4, cells := 0, slots := 0, locals := 97 }) s m args below meth c H locs 0 0 Qf (F0 m 4 ls []) := by
    intro N_4
    induction N_4 with
    | zero => intro i y hm_4; exact absurd hm_4 (Nat.not_lt_zero _)
    | succ N_4 ih_4 =>
      intro i y hm_4 hi hy H locs ls hP hD hS hl
      refine lv_iload_n hx hb dX1_possibleNumbers_4 rfl (lv_at hl 3 rfl) ?_
      refine lv_bipush (v := zI 10) hx hb dX1_possibleNumbers_5 (by decide) ?_
      refine z_icmp_ge (tgt := 31) hx hb (by omega) dX1_possibleNumbers_7 (by decide) (fun c_7 => ?_) (fun c_7 => ?_)
      · refine lv_iload_n hx hb dX1_possibleNumbers_31 rfl (lv_at hl 2 rfl) ?_
        rw [← hQf]
        exact z_iret K hS () (by rw [hy, show i = 10 by omega]) hP hD dX1_possibleNumbers_32
      · refine lv_aload_n hx hb dX1_possibleNumbers_10 rfl (lv_at hl 0 rfl) ?_
        refine lv_iload_n hx hb dX1_possibleNumbers_11 rfl (lv_at hl 1 rfl) ?_
        refine lv_iload_n hx hb dX1_possibleNumbers_12 rfl (lv_at hl 3 rfl) ?_
        refine zcall_i (wc := [cT t a ((n : Nat) : Int) ((k : Nat) : Int) ((d : Nat) : Int) ((v : Nat) : Int), cR cI (a 0) 6 g0, cR cI (a 4) 6 g4, cR cI (a 5) 6 g5, cR cI (a 6) 6 g6]) (wr := []) (rest := []) hE hP hD hS hA [0, 1, 2, 3, 4] [] [0, 1, 2, 3, 4] rfl rfl (by decide) (by decide) (by decide) (fun (u : Unit) => [cT t a ((n : Nat) : Int) ((k : Nat) : Int) ((d : Nat) : Int) ((v : Nat) : Int), cR cI (a 0) 6 g0, cR cI (a 4) 6 g4, cR cI (a 5) 6 g5, cR cI (a 6) 6 g6]) (fun u => rfl) (fun hPc hDc => zrunV (As := [.int (zI ((j0 : Nat) : Int)), .int (zI ((i : Nat) : Int))]) (rest := []) (q0 := 0) (ci := 1) K k_X1_agreesWithSeen qm_X1_64 ⟨⟨rfl, rfl⟩, ⟨Nat.le_of_ble_eq_true rfl, Nat.le_of_ble_eq_true rfl⟩⟩ rfl rfl hPc hDc (c_X1_agreesWithSeen l D cI t a n k d v g0 g4 g5 g6 κ ss sf st j0 i (by first | assumption | omega) (by first | assumption | omega) (by first | assumption | omega) (by first | assumption | omega) (by first | assumption | omega) (by first | assumption | omega) (by first | assumption | omega) (by first | assumption | omega) (by first | assumption | omega) (by first | assumption | omega) (by first | assumption | omega) (by first | assumption | omega) (by first | assumption | omega) _) rfl hl.1 rfl (Nat.le_of_ble_eq_true rfl) dX1_possibleNumbers_13 ⟨Nat.zero_le _, Nat.zero_le _⟩) (by decide) (fun z u H locs hpost hP hD hS => ?_)
        subst hpost
        have hP : va_P D cls [cT t a ((n : Nat) : Int) ((k : Nat) : Int) ((d : Nat) : Int) ((v : Nat) : Int), cR cI (a 0) 6 g0, cR cI (a 4) 6 g4, cR cI (a 5) 6 g5, cR cI (a 6) 6 g6] H := hP
        have hD : va_D (va_A [cT t a ((n : Nat) : Int) ((k : Nat) : Int) ((d : Nat) : Int) ((v : Nat) : Int), cR cI (a 0) 6 g0, cR cI (a 4) 6 g4, cR cI (a 5) 6 g5, cR cI (a 6) 6 g6] sz) [cT t a ((n : Nat) : Int) ((k : Nat) : Int) ((d : Nat) : Int) ((v : Nat) : Int), cR cI (a 0) 6 g0, cR cI (a 4) 6 g4, cR cI (a 5) 6 g5, cR cI (a 6) 6 g6] := hD
        refine W.eq (g2 := F0 m 16 ls [.int (zI (b01 (agB n (κ j0) i ss sf st j0 v = true)))]) rfl ?_
        refine z_if_eq (tgt := 25) hx hb (by have := b01_r (agB n (κ j0) i ss sf st j0 v = true); omega) dX1_possibleNumbers_16 (by decide) (fun c_16 => ?_) (fun c_16 => ?_)
        · have hy2 : y = btN (fun nm => agB n (κ j0) nm ss sf st j0 v) (i + 1) := by rw [btN_f (by simpa using b01_eq c_16)]; exact hy
          refine z_iinc (k := 3) (lv' := [(3, .int (zI (((i + 1) : Nat) : Int))), (0, .ref t), (1, .int (zI ((j0 : Nat) : Int))), (2, .int (zI ((y : Nat) : Int)))]) hx hb (((i + 1) : Nat) : Int) (by omega) dX1_possibleNumbers_25 hl rfl (by decide) rfl (fun ls hl => ?_)
          refine lv_goto (tgt := 4) hx hb dX1_possibleNumbers_28 (by decide) ?_
          exact ih_4 (i + 1) y (by omega) (by omega) (by first | exact hy1 | exact hy2) _ _ _ hP hD hS (lv_sub hl [1, 2, 3, 0] rfl)
        · have hy1 : y + 2 ^ i = btN (fun nm => agB n (κ j0) nm ss sf st j0 v) (i + 1) := by rw [btN_t (by simpa using b01_ne c_16)]; omega
          refine lv_iload_n hx hb dX1_possibleNumbers_19 rfl (lv_at hl 2 rfl) ?_
          refine lv_iconst (v := zI 1) hx hb dX1_possibleNumbers_20 rfl ?_
          refine lv_iload_n hx hb dX1_possibleNumbers_21 rfl (lv_at hl 3 rfl) ?_
          refine z_ishl hx hb ((2 ^ i : Nat) : Int) (by exact z_shl1 i (by omega)) dX1_possibleNumbers_22 ?_
          refine z_ior hx hb (((y + 2 ^ i) : Nat) : Int) (by exact z_orb (by rw [hy]; exact btN_lt _ _)) dX1_possibleNumbers_23 ?_
          refine lv_istore_n (lv' := [(2, .int (zI (((y + 2 ^ i) : Nat) : Int))), (0, .ref t), (1, .int (zI ((j0 : Nat) : Int))), (3, .int (zI ((i : Nat) : Int)))]) hx hb dX1_possibleNumbers_24 rfl hl (by decide) rfl (fun ls hl => ?_)
          refine z_iinc (k := 3) (lv' := [(3, .int (zI (((i + 1) : Nat) : Int))), (2, .int (zI (((y + 2 ^ i) : Nat) : Int))), (0, .ref t), (1, .int (zI ((j0 : Nat) : Int)))]) hx hb (((i + 1) : Nat) : Int) (by omega) dX1_possibleNumbers_25 hl rfl (by decide) rfl (fun ls hl => ?_)
          refine lv_goto (tgt := 4) hx hb dX1_possibleNumbers_28 (by decide) ?_
          exact ih_4 (i + 1) (y + 2 ^ i) (by omega) (by omega) (by first | exact hy1 | exact hy2) _ _ _ hP hD hS (lv_sub hl [2, 3, 1, 0] rfl)
  exact cut_4 (10 - 0 + 1) 0 0 (Nat.lt_succ_self _) (by omega) (by rfl) _ _ _ hP hD hS (lv_sub hl [2, 3, 1, 0] rfl)
set_option maxHeartbeats 4000000 in
set_option maxRecDepth 100000 in
theorem c_X1_setStep (l : Launch) (D : va_G) (cI : ClassId) (t : Nat) (a : Nat → Nat) (n k d v : Nat) (g0 g1 g2 : Nat → Int) (j0 kd nm : Nat) (hn : 2 ≤ n ∧ n ≤ 12) (hj0 : j0 < 6) (hkd : kd ≤ 4) (hnm0 : nm ≤ 9) : zMv l yX1_setStep cX1_setStep 5 none ({ frames := 3, cells := 0, slots := 0, locals := 74 }) D cI [.ref t, .int (zI ((j0 : Nat) : Int)), .int (zI ((kd : Nat) : Int)), .int (zI ((nm : Nat) : Int))] [cT t a ((n : Nat) : Int) ((k : Nat) : Int) ((d : Nat) : Int) ((v : Nat) : Int), cR cI (a 0) 6 g0, cR cI (a 1) 6 g1, cR cI (a 2) 72 g2] (fun (u : (Nat → Int)) => (∀ j, j < n → u (j0 * 12 + j) = ((mv n kd nm j : Nat) : Int)) ∧ (∀ j, (j < j0 * 12 ∨ j0 * 12 + n ≤ j) → u j = g2 j)) (fun (u : (Nat → Int)) => [cT t a ((n : Nat) : Int) ((k : Nat) : Int) ((d : Nat) : Int) ((v : Nat) : Int), cR cI (a 0) 6 (zup g0 j0 ((kd : Nat) : Int)), cR cI (a 1) 6 (zup g1 j0 ((nm : Nat) : Int)), cR cI (a 2) 72 u]) := by
  intro sz
  refine zstart rfl (by decide) (Nat.le_of_ble_eq_true rfl) ?_
  intro p e s m below meth c ls K hnm hsz hP hD hS hl
  generalize hargs : ([.ref t, .int (zI ((j0 : Nat) : Int)), .int (zI ((kd : Nat) : Int)), .int (zI ((nm : Nat) : Int))] : List Value).toArray = args at K ⊢
  generalize hQf : MQ below _ args s _ _ _ = Qf
  have K : zK p s m args meth c cX1_setStep 5 RX1 none D cI := K
  obtain ⟨hx, hb, hml, hown, hts, hE, -, -⟩ := id K
  have hA := zhA (ws0 := [cT t a ((n : Nat) : Int) ((k : Nat) : Int) ((d : Nat) : Int) ((v : Nat) : Int), cR cI (a 0) 6 g0, cR cI (a 1) 6 g1, cR cI (a 2) 72 g2]) hsz
  have hl : lv_has ls 5 [(0, .ref t), (1, .int (zI ((j0 : Nat) : Int))), (2, .int (zI ((kd : Nat) : Int))), (3, .int (zI ((nm : Nat) : Int)))] := hl
  refine lv_aload_n hx hb dX1_setStep_0 rfl (lv_at hl 0 rfl) ?_
  refine va_get (D := D) (ci := 1) (v := .ref (a 0)) (C := RX1) (T := TX1) (N := 11) hx hb hts inT_X1 hown hE.1 hP 0 rfl rfl 4 (by decide) (hts _ qf_X1_9) (fun _ h9 => h9) rfl dX1_setStep_1 ?_
  refine lv_iload_n hx hb dX1_setStep_4 rfl (lv_at hl 1 rfl) ?_
  refine lv_iload_n hx hb dX1_setStep_5 rfl (lv_at hl 2 rfl) ?_
  refine z_iast hx hb hE hP hD hS 1 rfl j0 (by omega) (by omega) (by first | decide | omega) (zup g0 j0 ((kd : Nat) : Int)) rfl dX1_setStep_6 (fun H locs hP hD hS => ?_)
  have hP : va_P D cls [cT t a ((n : Nat) : Int) ((k : Nat) : Int) ((d : Nat) : Int) ((v : Nat) : Int), cR cI (a 0) 6 (zup g0 j0 ((kd : Nat) : Int)), cR cI (a 1) 6 g1, cR cI (a 2) 72 g2] H := hP
  have hD : va_D (va_A [cT t a ((n : Nat) : Int) ((k : Nat) : Int) ((d : Nat) : Int) ((v : Nat) : Int), cR cI (a 0) 6 g0, cR cI (a 1) 6 g1, cR cI (a 2) 72 g2] sz) [cT t a ((n : Nat) : Int) ((k : Nat) : Int) ((d : Nat) : Int) ((v : Nat) : Int), cR cI (a 0) 6 (zup g0 j0 ((kd : Nat) : Int)), cR cI (a 1) 6 g1, cR cI (a 2) 72 g2] := hD
  refine lv_aload_n hx hb dX1_setStep_7 rfl (lv_at hl 0 rfl) ?_
  refine va_get (D := D) (ci := 1) (v := .ref (a 1)) (C := RX1) (T := TX1) (N := 11) hx hb hts inT_X1 hown hE.1 hP 0 rfl rfl 5 (by decide) (hts _ qf_X1_15) (fun _ h9 => h9) rfl dX1_setStep_8 ?_
  refine lv_iload_n hx hb dX1_setStep_11 rfl (lv_at hl 1 rfl) ?_
  refine lv_iload_n hx hb dX1_setStep_12 rfl (lv_at hl 3 rfl) ?_
  refine z_iast hx hb hE hP hD hS 2 rfl j0 (by omega) (by omega) (by first | decide | omega) (zup g1 j0 ((nm : Nat) : Int)) rfl dX1_setStep_13 (fun H locs hP hD hS => ?_)
  have hP : va_P D cls [cT t a ((n : Nat) : Int) ((k : Nat) : Int) ((d : Nat) : Int) ((v : Nat) : Int), cR cI (a 0) 6 (zup g0 j0 ((kd : Nat) : Int)), cR cI (a 1) 6 (zup g1 j0 ((nm : Nat) : Int)), cR cI (a 2) 72 g2] H := hP
  have hD : va_D (va_A [cT t a ((n : Nat) : Int) ((k : Nat) : Int) ((d : Nat) : Int) ((v : Nat) : Int), cR cI (a 0) 6 g0, cR cI (a 1) 6 g1, cR cI (a 2) 72 g2] sz) [cT t a ((n : Nat) : Int) ((k : Nat) : Int) ((d : Nat) : Int) ((v : Nat) : Int), cR cI (a 0) 6 (zup g0 j0 ((kd : Nat) : Int)), cR cI (a 1) 6 (zup g1 j0 ((nm : Nat) : Int)), cR cI (a 2) 72 g2] := hD
  refine lv_iconst (v := zI 0) hx hb dX1_setStep_14 rfl ?_
  refine lv_istore (lv' := [(4, .int (zI 0)), (0, .ref t), (1, .int (zI ((j0 : Nat) : Int))), (2, .int (zI ((kd : Nat) : Int))), (3, .int (zI ((nm : Nat) : Int)))]) hx hb dX1_setStep_15 hl (by decide) rfl (fun ls hl => ?_)
  have cut_17 : ∀ (N_17 : Nat), ∀ (i : Nat) (q2 : Nat → Int), n - i < N_17 → (i ≤ n) → (∀ j, j < i → q2 (j0 * 12 + j) = ((mv n kd nm j : Nat) : Int)) → (∀ j, (j < j0 * 12 ∨ j0 * 12 + n ≤ j) → q2 j = g2 j) → ∀ (H : Heap) (locs : List Loc) (ls : Array Slot), va_P D cls [cT t a ((n : Nat) : Int) ((k : Nat) : Int) ((d : Nat) : Int) ((v : Nat) : Int), cR cI (a 0) 6 (zup g0 j0 ((kd : Nat) : Int)), cR cI (a 1) 6 (zup g1 j0 ((nm : Nat) : Int)), cR cI (a 2) 72 q2] H → va_D (va_A [cT t a ((n : Nat) : Int) ((k : Nat) : Int) ((d : Nat) : Int) ((v : Nat) : Int), cR cI (a 0) 6 g0, cR cI (a 1) 6 g1, cR cI (a 2) 72 g2] sz) [cT t a ((n : Nat) : Int) ((k : Nat) : Int) ((d : Nat) : Int) ((v : Nat) : Int), cR cI (a 0) 6 (zup g0 j0 ((kd : Nat) : Int)), cR cI (a 1) 6 (zup g1 j0 ((nm : Nat) : Int)), cR cI (a 2) 72 q2] → va_S (va_A [cT t a ((n : Nat) : Int) ((k : Nat) : Int) ((d : Nat) : Int) ((v : Nat) : Int), cR cI (a 0) 6 g0, cR cI (a 1) 6 g1, cR cI (a 2) 72 g2] sz) s.heap H locs → lv_has ls 5 [(0, .ref t), (1, .int (zI ((j0 : Nat) : Int))), (2, .int (zI ((kd : Nat) : Int))), (3, .int (zI ((nm : Nat) : Int))), (4, .int (zI ((i : Nat) : Int)))] → W p l e ({ frames := 3, cells := 0, slots := 0, locals := 74 }) s m args below meth c H locs 0 0 Qf (F0 m 17 ls []) := by
    intro N_17
    induction N_17 with
    | zero => intro i q2 hm_17; exact absurd hm_17 (Nat.not_lt_zero _)
    | succ N_17 ih_17 =>
      intro i q2 hm_17 hi hq1 hq2 H locs ls hP hD hS hl
      refine lv_iload hx hb dX1_setStep_17 (lv_at hl 4 rfl) ?_
      refine lv_aload_n hx hb dX1_setStep_19 rfl (lv_at hl 0 rfl) ?_
      refine va_get (D := D) (ci := 1) (v := .int (zI ((n : Nat) : Int))) (C := RX1) (T := TX1) (N := 11) hx hb hts inT_X1 hown hE.1 hP 0 rfl rfl 0 (by decide) (hts _ qf_X1_33) (fun _ h9 => h9) rfl dX1_setStep_20 ?_
      refine z_icmp_ge (tgt := 55) hx hb (by omega) dX1_setStep_23 (by decide) (fun c_23 => ?_) (fun c_23 => ?_)
      · rw [← hQf]
        exact z_vret K hS (q2) ⟨(by intro j hj; exact hq1 j (by omega)), (by exact hq2)⟩ hP hD dX1_setStep_55
      · refine lv_aload_n hx hb dX1_setStep_26 rfl (lv_at hl 0 rfl) ?_
        refine va_get (D := D) (ci := 1) (v := .ref (a 2)) (C := RX1) (T := TX1) (N := 11) hx hb hts inT_X1 hown hE.1 hP 0 rfl rfl 6 (by decide) (hts _ qf_X1_18) (fun _ h9 => h9) rfl dX1_setStep_27 ?_
        refine lv_iload_n hx hb dX1_setStep_30 rfl (lv_at hl 1 rfl) ?_
        refine lv_bipush (v := zI 12) hx hb dX1_setStep_31 (by decide) ?_
        refine z_imul hx hb (((j0 * 12) : Nat) : Int) (by first | omega | exact (Int.natCast_mul _ _).symm) dX1_setStep_33 ?_
        refine lv_iload hx hb dX1_setStep_34 (lv_at hl 4 rfl) ?_
        refine z_iadd hx hb ((((j0 * 12) + i) : Nat) : Int) (by omega) dX1_setStep_36 ?_
        refine lv_iload_n hx hb dX1_setStep_37 rfl (lv_at hl 2 rfl) ?_
        refine lv_iload_n hx hb dX1_setStep_38 rfl (lv_at hl 3 rfl) ?_
        refine lv_aload_n hx hb dX1_setStep_39 rfl (lv_at hl 0 rfl) ?_
        refine va_get (D := D) (ci := 1) (v := .int (zI ((n : Nat) : Int))) (C := RX1) (T := TX1) (N := 11) hx hb hts inT_X1 hown hE.1 hP 0 rfl rfl 0 (by decide) (hts _ qf_X1_33) (fun _ h9 => h9) rfl dX1_setStep_40 ?_
        refine lv_iload hx hb dX1_setStep_43 (lv_at hl 4 rfl) ?_
        refine zcall_i (wc := []) (wr := [cT t a ((n : Nat) : Int) ((k : Nat) : Int) ((d : Nat) : Int) ((v : Nat) : Int), cR cI (a 0) 6 (zup g0 j0 ((kd : Nat) : Int)), cR cI (a 1) 6 (zup g1 j0 ((nm : Nat) : Int)), cR cI (a 2) 72 q2]) (rest := [.int (zI ((((j0 * 12) + i) : Nat) : Int)), .ref (a 2)]) hE hP hD hS hA [] [0, 1, 2, 3] [0, 1, 2, 3] rfl rfl (by decide) (by decide) (by decide) (fun (u : Unit) => [cT t a ((n : Nat) : Int) ((k : Nat) : Int) ((d : Nat) : Int) ((v : Nat) : Int), cR cI (a 0) 6 (zup g0 j0 ((kd : Nat) : Int)), cR cI (a 1) 6 (zup g1 j0 ((nm : Nat) : Int)), cR cI (a 2) 72 q2]) (fun u => rfl) (fun hPc hDc => zrunSN (As := [.int (zI ((kd : Nat) : Int)), .int (zI ((nm : Nat) : Int)), .int (zI ((n : Nat) : Int)), .int (zI ((i : Nat) : Int))]) (rest := [.int (zI ((((j0 * 12) + i) : Nat) : Int)), .ref (a 2)]) K k_X3_moved nk_X1_55 ⟨⟨rfl, rfl⟩, ⟨Nat.le_of_ble_eq_true rfl, Nat.le_of_ble_eq_true rfl⟩⟩ hPc hDc (c_X3_moved l D cI kd nm n i (by first | assumption | omega) (by first | assumption | omega) (by first | assumption | omega) (by first | assumption | omega) _) rfl hl.1 rfl (Nat.le_of_ble_eq_true rfl) dX1_setStep_45 ⟨Nat.zero_le _, Nat.zero_le _⟩) (by decide) (fun z u H locs hpost hP hD hS => ?_)
        subst hpost
        have hP : va_P D cls [cT t a ((n : Nat) : Int) ((k : Nat) : Int) ((d : Nat) : Int) ((v : Nat) : Int), cR cI (a 0) 6 (zup g0 j0 ((kd : Nat) : Int)), cR cI (a 1) 6 (zup g1 j0 ((nm : Nat) : Int)), cR cI (a 2) 72 q2] H := hP
        have hD : va_D (va_A [cT t a ((n : Nat) : Int) ((k : Nat) : Int) ((d : Nat) : Int) ((v : Nat) : Int), cR cI (a 0) 6 g0, cR cI (a 1) 6 g1, cR cI (a 2) 72 g2] sz) [cT t a ((n : Nat) : Int) ((k : Nat) : Int) ((d : Nat) : Int) ((v : Nat) : Int), cR cI (a 0) 6 (zup g0 j0 ((kd : Nat) : Int)), cR cI (a 1) 6 (zup g1 j0 ((nm : Nat) : Int)), cR cI (a 2) 72 q2] := hD
        refine W.eq (g2 := F0 m 48 ls [.int (zI (((mv n kd nm i) : Nat) : Int)), .int (zI ((((j0 * 12) + i) : Nat) : Int)), .ref (a 2)]) rfl ?_
        refine z_iast hx hb hE hP hD hS 3 rfl ((j0 * 12) + i) (by omega) (by omega) (by first | decide | omega) (zup q2 ((j0 * 12) + i) (((mv n kd nm i) : Nat) : Int)) rfl dX1_setStep_48 (fun H locs hP hD hS => ?_)
        have hP : va_P D cls [cT t a ((n : Nat) : Int) ((k : Nat) : Int) ((d : Nat) : Int) ((v : Nat) : Int), cR cI (a 0) 6 (zup g0 j0 ((kd : Nat) : Int)), cR cI (a 1) 6 (zup g1 j0 ((nm : Nat) : Int)), cR cI (a 2) 72 (zup q2 ((j0 * 12) + i) (((mv n kd nm i) : Nat) : Int))] H := hP
        have hD : va_D (va_A [cT t a ((n : Nat) : Int) ((k : Nat) : Int) ((d : Nat) : Int) ((v : Nat) : Int), cR cI (a 0) 6 g0, cR cI (a 1) 6 g1, cR cI (a 2) 72 g2] sz) [cT t a ((n : Nat) : Int) ((k : Nat) : Int) ((d : Nat) : Int) ((v : Nat) : Int), cR cI (a 0) 6 (zup g0 j0 ((kd : Nat) : Int)), cR cI (a 1) 6 (zup g1 j0 ((nm : Nat) : Int)), cR cI (a 2) 72 (zup q2 ((j0 * 12) + i) (((mv n kd nm i) : Nat) : Int))] := hD
        refine z_iinc (k := 4) (lv' := [(4, .int (zI (((i + 1) : Nat) : Int))), (0, .ref t), (1, .int (zI ((j0 : Nat) : Int))), (2, .int (zI ((kd : Nat) : Int))), (3, .int (zI ((nm : Nat) : Int)))]) hx hb (((i + 1) : Nat) : Int) (by omega) dX1_setStep_49 hl rfl (by decide) rfl (fun ls hl => ?_)
        refine lv_goto (tgt := 17) hx hb dX1_setStep_52 (by decide) ?_
        exact ih_17 (i + 1) (zup q2 ((j0 * 12) + i) (((mv n kd nm i) : Nat) : Int)) (by omega) (by omega) (by intro j hj; rcases Nat.lt_or_ge j i with h1 | h1; rw [zup_n (by omega)]; exact hq1 j h1; rw [show j = i by omega]; exact zup_s _ _ _) (by intro j hj; rw [zup_n (by omega)]; exact hq2 j hj) _ _ _ hP hD hS (lv_sub hl [1, 2, 3, 4, 0] rfl)
  exact cut_17 (n - 0 + 1) 0 g2 (Nat.lt_succ_self _) (by omega) (by intro j hj; omega) (by intro j _; rfl) _ _ _ hP hD hS (lv_sub hl [1, 2, 3, 4, 0] rfl)
set_option maxHeartbeats 4000000 in
set_option maxRecDepth 100000 in
theorem c_X1_copy (l : Launch) (D : va_G) (cI : ClassId) (t : Nat) (a : Nat → Nat) (n0 k0 d0 v0 : Int) (t2 : Nat) (a2 : Nat → Nat) (n k d v : Int) (f0 g0 : Nat → Int) (f1 g1 : Nat → Int) (f2 g2 : Nat → Int) (f3 g3 : Nat → Int) (f4 g4 : Nat → Int) (f5 g5 : Nat → Int) (f6 g6 : Nat → Int)  : zMv l yX1_copy cX1_copy 2 none ({ frames := 1, cells := 0, slots := 0, locals := 48 }) D cI [.ref t, .ref t2] [cT t a n0 k0 d0 v0, cR cI (a 0) 6 f0, cR cI (a 1) 6 f1, cR cI (a 2) 72 f2, cR cI (a 3) 12 f3, cR cI (a 4) 6 f4, cR cI (a 5) 6 f5, cR cI (a 6) 6 f6, cT t2 a2 n k d v, cR cI (a2 0) 6 g0, cR cI (a2 1) 6 g1, cR cI (a2 2) 72 g2, cR cI (a2 3) 12 g3, cR cI (a2 4) 6 g4, cR cI (a2 5) 6 g5, cR cI (a2 6) 6 g6] (fun (u : Unit) => True) (fun (u : Unit) => [cT t a n k d v, cR cI (a 0) 6 (zcp g0 f0 6), cR cI (a 1) 6 (zcp g1 f1 6), cR cI (a 2) 72 (zcp g2 f2 72), cR cI (a 3) 12 (zcp g3 f3 12), cR cI (a 4) 6 (zcp g4 f4 6), cR cI (a 5) 6 (zcp g5 f5 6), cR cI (a 6) 6 (zcp g6 f6 6), cT t2 a2 n k d v, cR cI (a2 0) 6 g0, cR cI (a2 1) 6 g1, cR cI (a2 2) 72 g2, cR cI (a2 3) 12 g3, cR cI (a2 4) 6 g4, cR cI (a2 5) 6 g5, cR cI (a2 6) 6 g6]) := by
  intro sz
  refine zstart rfl (by decide) (Nat.le_of_ble_eq_true rfl) ?_
  intro p e s m below meth c ls K hnm hsz hP hD hS hl
  generalize hargs : ([.ref t, .ref t2] : List Value).toArray = args at K ⊢
  generalize hQf : MQ below _ args s _ _ _ = Qf
  have K : zK p s m args meth c cX1_copy 2 RX1 none D cI := K
  obtain ⟨hx, hb, hml, hown, hts, hE, -, -⟩ := id K
  have hA := zhA (ws0 := [cT t a n0 k0 d0 v0, cR cI (a 0) 6 f0, cR cI (a 1) 6 f1, cR cI (a 2) 72 f2, cR cI (a 3) 12 f3, cR cI (a 4) 6 f4, cR cI (a 5) 6 f5, cR cI (a 6) 6 f6, cT t2 a2 n k d v, cR cI (a2 0) 6 g0, cR cI (a2 1) 6 g1, cR cI (a2 2) 72 g2, cR cI (a2 3) 12 g3, cR cI (a2 4) 6 g4, cR cI (a2 5) 6 g5, cR cI (a2 6) 6 g6]) hsz
  have hl : lv_has ls 2 [(0, .ref t), (1, .ref t2)] := hl
  refine lv_aload_n hx hb dX1_copy_0 rfl (lv_at hl 0 rfl) ?_
  refine lv_aload_n hx hb dX1_copy_1 rfl (lv_at hl 1 rfl) ?_
  refine va_get (D := D) (ci := 1) (v := .int (zI n)) (C := RX1) (T := TX1) (N := 11) hx hb hts inT_X1 hown hE.1 hP 8 rfl rfl 0 (by decide) (hts _ qf_X1_33) (fun _ h9 => h9) rfl dX1_copy_2 ?_
  refine va_put (D := D) (ci := 1) (v := .int (zI n)) (ty := .int) (C := RX1) (T := TX1) (N := 11) hx hb hts inT_X1 tyX1 tyX1_ok nmX1 hown hE.1 hP hD hS 0 rfl rfl 0 (by decide) (hts _ qf_X1_33) (fun _ h9 => h9) rfl (by decide +kernel) rfl rfl (Nat.le_of_ble_eq_true rfl) dX1_copy_5 (fun H locs hP hD hS => ?_)
  have hP : va_P D cls [cT t a n k0 d0 v0, cR cI (a 0) 6 f0, cR cI (a 1) 6 f1, cR cI (a 2) 72 f2, cR cI (a 3) 12 f3, cR cI (a 4) 6 f4, cR cI (a 5) 6 f5, cR cI (a 6) 6 f6, cT t2 a2 n k d v, cR cI (a2 0) 6 g0, cR cI (a2 1) 6 g1, cR cI (a2 2) 72 g2, cR cI (a2 3) 12 g3, cR cI (a2 4) 6 g4, cR cI (a2 5) 6 g5, cR cI (a2 6) 6 g6] H := hP
  have hD : va_D (va_A [cT t a n0 k0 d0 v0, cR cI (a 0) 6 f0, cR cI (a 1) 6 f1, cR cI (a 2) 72 f2, cR cI (a 3) 12 f3, cR cI (a 4) 6 f4, cR cI (a 5) 6 f5, cR cI (a 6) 6 f6, cT t2 a2 n k d v, cR cI (a2 0) 6 g0, cR cI (a2 1) 6 g1, cR cI (a2 2) 72 g2, cR cI (a2 3) 12 g3, cR cI (a2 4) 6 g4, cR cI (a2 5) 6 g5, cR cI (a2 6) 6 g6] sz) [cT t a n k0 d0 v0, cR cI (a 0) 6 f0, cR cI (a 1) 6 f1, cR cI (a 2) 72 f2, cR cI (a 3) 12 f3, cR cI (a 4) 6 f4, cR cI (a 5) 6 f5, cR cI (a 6) 6 f6, cT t2 a2 n k d v, cR cI (a2 0) 6 g0, cR cI (a2 1) 6 g1, cR cI (a2 2) 72 g2, cR cI (a2 3) 12 g3, cR cI (a2 4) 6 g4, cR cI (a2 5) 6 g5, cR cI (a2 6) 6 g6] := hD
  refine lv_aload_n hx hb dX1_copy_8 rfl (lv_at hl 0 rfl) ?_
  refine lv_aload_n hx hb dX1_copy_9 rfl (lv_at hl 1 rfl) ?_
  refine va_get (D := D) (ci := 1) (v := .int (zI k)) (C := RX1) (T := TX1) (N := 11) hx hb hts inT_X1 hown hE.1 hP 8 rfl rfl 1 (by decide) (hts _ qf_X1_37) (fun _ h9 => h9) rfl dX1_copy_10 ?_
  refine va_put (D := D) (ci := 1) (v := .int (zI k)) (ty := .int) (C := RX1) (T := TX1) (N := 11) hx hb hts inT_X1 tyX1 tyX1_ok nmX1 hown hE.1 hP hD hS 0 rfl rfl 1 (by decide) (hts _ qf_X1_37) (fun _ h9 => h9) rfl (by decide +kernel) rfl rfl (Nat.le_of_ble_eq_true rfl) dX1_copy_13 (fun H locs hP hD hS => ?_)
  have hP : va_P D cls [cT t a n k d0 v0, cR cI (a 0) 6 f0, cR cI (a 1) 6 f1, cR cI (a 2) 72 f2, cR cI (a 3) 12 f3, cR cI (a 4) 6 f4, cR cI (a 5) 6 f5, cR cI (a 6) 6 f6, cT t2 a2 n k d v, cR cI (a2 0) 6 g0, cR cI (a2 1) 6 g1, cR cI (a2 2) 72 g2, cR cI (a2 3) 12 g3, cR cI (a2 4) 6 g4, cR cI (a2 5) 6 g5, cR cI (a2 6) 6 g6] H := hP
  have hD : va_D (va_A [cT t a n0 k0 d0 v0, cR cI (a 0) 6 f0, cR cI (a 1) 6 f1, cR cI (a 2) 72 f2, cR cI (a 3) 12 f3, cR cI (a 4) 6 f4, cR cI (a 5) 6 f5, cR cI (a 6) 6 f6, cT t2 a2 n k d v, cR cI (a2 0) 6 g0, cR cI (a2 1) 6 g1, cR cI (a2 2) 72 g2, cR cI (a2 3) 12 g3, cR cI (a2 4) 6 g4, cR cI (a2 5) 6 g5, cR cI (a2 6) 6 g6] sz) [cT t a n k d0 v0, cR cI (a 0) 6 f0, cR cI (a 1) 6 f1, cR cI (a 2) 72 f2, cR cI (a 3) 12 f3, cR cI (a 4) 6 f4, cR cI (a 5) 6 f5, cR cI (a 6) 6 f6, cT t2 a2 n k d v, cR cI (a2 0) 6 g0, cR cI (a2 1) 6 g1, cR cI (a2 2) 72 g2, cR cI (a2 3) 12 g3, cR cI (a2 4) 6 g4, cR cI (a2 5) 6 g5, cR cI (a2 6) 6 g6] := hD
  refine lv_aload_n hx hb dX1_copy_16 rfl (lv_at hl 0 rfl) ?_
  refine lv_aload_n hx hb dX1_copy_17 rfl (lv_at hl 1 rfl) ?_
  refine va_get (D := D) (ci := 1) (v := .int (zI d)) (C := RX1) (T := TX1) (N := 11) hx hb hts inT_X1 hown hE.1 hP 8 rfl rfl 2 (by decide) (hts _ qf_X1_40) (fun _ h9 => h9) rfl dX1_copy_18 ?_
  refine va_put (D := D) (ci := 1) (v := .int (zI d)) (ty := .int) (C := RX1) (T := TX1) (N := 11) hx hb hts inT_X1 tyX1 tyX1_ok nmX1 hown hE.1 hP hD hS 0 rfl rfl 2 (by decide) (hts _ qf_X1_40) (fun _ h9 => h9) rfl (by decide +kernel) rfl rfl (Nat.le_of_ble_eq_true rfl) dX1_copy_21 (fun H locs hP hD hS => ?_)
  have hP : va_P D cls [cT t a n k d v0, cR cI (a 0) 6 f0, cR cI (a 1) 6 f1, cR cI (a 2) 72 f2, cR cI (a 3) 12 f3, cR cI (a 4) 6 f4, cR cI (a 5) 6 f5, cR cI (a 6) 6 f6, cT t2 a2 n k d v, cR cI (a2 0) 6 g0, cR cI (a2 1) 6 g1, cR cI (a2 2) 72 g2, cR cI (a2 3) 12 g3, cR cI (a2 4) 6 g4, cR cI (a2 5) 6 g5, cR cI (a2 6) 6 g6] H := hP
  have hD : va_D (va_A [cT t a n0 k0 d0 v0, cR cI (a 0) 6 f0, cR cI (a 1) 6 f1, cR cI (a 2) 72 f2, cR cI (a 3) 12 f3, cR cI (a 4) 6 f4, cR cI (a 5) 6 f5, cR cI (a 6) 6 f6, cT t2 a2 n k d v, cR cI (a2 0) 6 g0, cR cI (a2 1) 6 g1, cR cI (a2 2) 72 g2, cR cI (a2 3) 12 g3, cR cI (a2 4) 6 g4, cR cI (a2 5) 6 g5, cR cI (a2 6) 6 g6] sz) [cT t a n k d v0, cR cI (a 0) 6 f0, cR cI (a 1) 6 f1, cR cI (a 2) 72 f2, cR cI (a 3) 12 f3, cR cI (a 4) 6 f4, cR cI (a 5) 6 f5, cR cI (a 6) 6 f6, cT t2 a2 n k d v, cR cI (a2 0) 6 g0, cR cI (a2 1) 6 g1, cR cI (a2 2) 72 g2, cR cI (a2 3) 12 g3, cR cI (a2 4) 6 g4, cR cI (a2 5) 6 g5, cR cI (a2 6) 6 g6] := hD
  refine lv_aload_n hx hb dX1_copy_24 rfl (lv_at hl 0 rfl) ?_
  refine lv_aload_n hx hb dX1_copy_25 rfl (lv_at hl 1 rfl) ?_
  refine va_get (D := D) (ci := 1) (v := .int (zI v)) (C := RX1) (T := TX1) (N := 11) hx hb hts inT_X1 hown hE.1 hP 8 rfl rfl 3 (by decide) (hts _ qf_X1_43) (fun _ h9 => h9) rfl dX1_copy_26 ?_
  refine va_put (D := D) (ci := 1) (v := .int (zI v)) (ty := .int) (C := RX1) (T := TX1) (N := 11) hx hb hts inT_X1 tyX1 tyX1_ok nmX1 hown hE.1 hP hD hS 0 rfl rfl 3 (by decide) (hts _ qf_X1_43) (fun _ h9 => h9) rfl (by decide +kernel) rfl rfl (Nat.le_of_ble_eq_true rfl) dX1_copy_29 (fun H locs hP hD hS => ?_)
  have hP : va_P D cls [cT t a n k d v, cR cI (a 0) 6 f0, cR cI (a 1) 6 f1, cR cI (a 2) 72 f2, cR cI (a 3) 12 f3, cR cI (a 4) 6 f4, cR cI (a 5) 6 f5, cR cI (a 6) 6 f6, cT t2 a2 n k d v, cR cI (a2 0) 6 g0, cR cI (a2 1) 6 g1, cR cI (a2 2) 72 g2, cR cI (a2 3) 12 g3, cR cI (a2 4) 6 g4, cR cI (a2 5) 6 g5, cR cI (a2 6) 6 g6] H := hP
  have hD : va_D (va_A [cT t a n0 k0 d0 v0, cR cI (a 0) 6 f0, cR cI (a 1) 6 f1, cR cI (a 2) 72 f2, cR cI (a 3) 12 f3, cR cI (a 4) 6 f4, cR cI (a 5) 6 f5, cR cI (a 6) 6 f6, cT t2 a2 n k d v, cR cI (a2 0) 6 g0, cR cI (a2 1) 6 g1, cR cI (a2 2) 72 g2, cR cI (a2 3) 12 g3, cR cI (a2 4) 6 g4, cR cI (a2 5) 6 g5, cR cI (a2 6) 6 g6] sz) [cT t a n k d v, cR cI (a 0) 6 f0, cR cI (a 1) 6 f1, cR cI (a 2) 72 f2, cR cI (a 3) 12 f3, cR cI (a 4) 6 f4, cR cI (a 5) 6 f5, cR cI (a 6) 6 f6, cT t2 a2 n k d v, cR cI (a2 0) 6 g0, cR cI (a2 1) 6 g1, cR cI (a2 2) 72 g2, cR cI (a2 3) 12 g3, cR cI (a2 4) 6 g4, cR cI (a2 5) 6 g5, cR cI (a2 6) 6 g6] := hD
  refine lv_aload_n hx hb dX1_copy_32 rfl (lv_at hl 1 rfl) ?_
  refine va_get (D := D) (ci := 1) (v := .ref (a2 0)) (C := RX1) (T := TX1) (N := 11) hx hb hts inT_X1 hown hE.1 hP 8 rfl rfl 4 (by decide) (hts _ qf_X1_9) (fun _ h9 => h9) rfl dX1_copy_33 ?_
  refine lv_iconst (v := zI 0) hx hb dX1_copy_36 rfl ?_
  refine lv_aload_n hx hb dX1_copy_37 rfl (lv_at hl 0 rfl) ?_
  refine va_get (D := D) (ci := 1) (v := .ref (a 0)) (C := RX1) (T := TX1) (N := 11) hx hb hts inT_X1 hown hE.1 hP 0 rfl rfl 4 (by decide) (hts _ qf_X1_9) (fun _ h9 => h9) rfl dX1_copy_38 ?_
  refine lv_iconst (v := zI 0) hx hb dX1_copy_41 rfl ?_
  refine lv_bipush (v := zI 6) hx hb dX1_copy_42 (by decide) ?_
  refine z_copy hx hb (by rw [hml]; exact hl.1.symm) hown (hts _ qm_X1_49) (hts _ qv_acopy) (hts _ qs_acopy) (hts _ qn_System) hE hP hD hS 9 1 rfl rfl 6 (by omega) (by omega) (by decide) (by decide) (by decide) (Nat.le_of_ble_eq_true rfl) (zcp g0 f0 6) rfl dX1_copy_44 (fun H locs hP hD hS => ?_)
  have hP : va_P D cls [cT t a n k d v, cR cI (a 0) 6 (zcp g0 f0 6), cR cI (a 1) 6 f1, cR cI (a 2) 72 f2, cR cI (a 3) 12 f3, cR cI (a 4) 6 f4, cR cI (a 5) 6 f5, cR cI (a 6) 6 f6, cT t2 a2 n k d v, cR cI (a2 0) 6 g0, cR cI (a2 1) 6 g1, cR cI (a2 2) 72 g2, cR cI (a2 3) 12 g3, cR cI (a2 4) 6 g4, cR cI (a2 5) 6 g5, cR cI (a2 6) 6 g6] H := hP
  have hD : va_D (va_A [cT t a n0 k0 d0 v0, cR cI (a 0) 6 f0, cR cI (a 1) 6 f1, cR cI (a 2) 72 f2, cR cI (a 3) 12 f3, cR cI (a 4) 6 f4, cR cI (a 5) 6 f5, cR cI (a 6) 6 f6, cT t2 a2 n k d v, cR cI (a2 0) 6 g0, cR cI (a2 1) 6 g1, cR cI (a2 2) 72 g2, cR cI (a2 3) 12 g3, cR cI (a2 4) 6 g4, cR cI (a2 5) 6 g5, cR cI (a2 6) 6 g6] sz) [cT t a n k d v, cR cI (a 0) 6 (zcp g0 f0 6), cR cI (a 1) 6 f1, cR cI (a 2) 72 f2, cR cI (a 3) 12 f3, cR cI (a 4) 6 f4, cR cI (a 5) 6 f5, cR cI (a 6) 6 f6, cT t2 a2 n k d v, cR cI (a2 0) 6 g0, cR cI (a2 1) 6 g1, cR cI (a2 2) 72 g2, cR cI (a2 3) 12 g3, cR cI (a2 4) 6 g4, cR cI (a2 5) 6 g5, cR cI (a2 6) 6 g6] := hD
  refine lv_aload_n hx hb dX1_copy_47 rfl (lv_at hl 1 rfl) ?_
  refine va_get (D := D) (ci := 1) (v := .ref (a2 1)) (C := RX1) (T := TX1) (N := 11) hx hb hts inT_X1 hown hE.1 hP 8 rfl rfl 5 (by decide) (hts _ qf_X1_15) (fun _ h9 => h9) rfl dX1_copy_48 ?_
  refine lv_iconst (v := zI 0) hx hb dX1_copy_51 rfl ?_
  refine lv_aload_n hx hb dX1_copy_52 rfl (lv_at hl 0 rfl) ?_
  refine va_get (D := D) (ci := 1) (v := .ref (a 1)) (C := RX1) (T := TX1) (N := 11) hx hb hts inT_X1 hown hE.1 hP 0 rfl rfl 5 (by decide) (hts _ qf_X1_15) (fun _ h9 => h9) rfl dX1_copy_53 ?_
  refine lv_iconst (v := zI 0) hx hb dX1_copy_56 rfl ?_
  refine lv_bipush (v := zI 6) hx hb dX1_copy_57 (by decide) ?_
  refine z_copy hx hb (by rw [hml]; exact hl.1.symm) hown (hts _ qm_X1_49) (hts _ qv_acopy) (hts _ qs_acopy) (hts _ qn_System) hE hP hD hS 10 2 rfl rfl 6 (by omega) (by omega) (by decide) (by decide) (by decide) (Nat.le_of_ble_eq_true rfl) (zcp g1 f1 6) rfl dX1_copy_59 (fun H locs hP hD hS => ?_)
  have hP : va_P D cls [cT t a n k d v, cR cI (a 0) 6 (zcp g0 f0 6), cR cI (a 1) 6 (zcp g1 f1 6), cR cI (a 2) 72 f2, cR cI (a 3) 12 f3, cR cI (a 4) 6 f4, cR cI (a 5) 6 f5, cR cI (a 6) 6 f6, cT t2 a2 n k d v, cR cI (a2 0) 6 g0, cR cI (a2 1) 6 g1, cR cI (a2 2) 72 g2, cR cI (a2 3) 12 g3, cR cI (a2 4) 6 g4, cR cI (a2 5) 6 g5, cR cI (a2 6) 6 g6] H := hP
  have hD : va_D (va_A [cT t a n0 k0 d0 v0, cR cI (a 0) 6 f0, cR cI (a 1) 6 f1, cR cI (a 2) 72 f2, cR cI (a 3) 12 f3, cR cI (a 4) 6 f4, cR cI (a 5) 6 f5, cR cI (a 6) 6 f6, cT t2 a2 n k d v, cR cI (a2 0) 6 g0, cR cI (a2 1) 6 g1, cR cI (a2 2) 72 g2, cR cI (a2 3) 12 g3, cR cI (a2 4) 6 g4, cR cI (a2 5) 6 g5, cR cI (a2 6) 6 g6] sz) [cT t a n k d v, cR cI (a 0) 6 (zcp g0 f0 6), cR cI (a 1) 6 (zcp g1 f1 6), cR cI (a 2) 72 f2, cR cI (a 3) 12 f3, cR cI (a 4) 6 f4, cR cI (a 5) 6 f5, cR cI (a 6) 6 f6, cT t2 a2 n k d v, cR cI (a2 0) 6 g0, cR cI (a2 1) 6 g1, cR cI (a2 2) 72 g2, cR cI (a2 3) 12 g3, cR cI (a2 4) 6 g4, cR cI (a2 5) 6 g5, cR cI (a2 6) 6 g6] := hD
  refine lv_aload_n hx hb dX1_copy_62 rfl (lv_at hl 1 rfl) ?_
  refine va_get (D := D) (ci := 1) (v := .ref (a2 2)) (C := RX1) (T := TX1) (N := 11) hx hb hts inT_X1 hown hE.1 hP 8 rfl rfl 6 (by decide) (hts _ qf_X1_18) (fun _ h9 => h9) rfl dX1_copy_63 ?_
  refine lv_iconst (v := zI 0) hx hb dX1_copy_66 rfl ?_
  refine lv_aload_n hx hb dX1_copy_67 rfl (lv_at hl 0 rfl) ?_
  refine va_get (D := D) (ci := 1) (v := .ref (a 2)) (C := RX1) (T := TX1) (N := 11) hx hb hts inT_X1 hown hE.1 hP 0 rfl rfl 6 (by decide) (hts _ qf_X1_18) (fun _ h9 => h9) rfl dX1_copy_68 ?_
  refine lv_iconst (v := zI 0) hx hb dX1_copy_71 rfl ?_
  refine lv_bipush (v := zI 72) hx hb dX1_copy_72 (by decide) ?_
  refine z_copy hx hb (by rw [hml]; exact hl.1.symm) hown (hts _ qm_X1_49) (hts _ qv_acopy) (hts _ qs_acopy) (hts _ qn_System) hE hP hD hS 11 3 rfl rfl 72 (by omega) (by omega) (by decide) (by decide) (by decide) (Nat.le_of_ble_eq_true rfl) (zcp g2 f2 72) rfl dX1_copy_74 (fun H locs hP hD hS => ?_)
  have hP : va_P D cls [cT t a n k d v, cR cI (a 0) 6 (zcp g0 f0 6), cR cI (a 1) 6 (zcp g1 f1 6), cR cI (a 2) 72 (zcp g2 f2 72), cR cI (a 3) 12 f3, cR cI (a 4) 6 f4, cR cI (a 5) 6 f5, cR cI (a 6) 6 f6, cT t2 a2 n k d v, cR cI (a2 0) 6 g0, cR cI (a2 1) 6 g1, cR cI (a2 2) 72 g2, cR cI (a2 3) 12 g3, cR cI (a2 4) 6 g4, cR cI (a2 5) 6 g5, cR cI (a2 6) 6 g6] H := hP
  have hD : va_D (va_A [cT t a n0 k0 d0 v0, cR cI (a 0) 6 f0, cR cI (a 1) 6 f1, cR cI (a 2) 72 f2, cR cI (a 3) 12 f3, cR cI (a 4) 6 f4, cR cI (a 5) 6 f5, cR cI (a 6) 6 f6, cT t2 a2 n k d v, cR cI (a2 0) 6 g0, cR cI (a2 1) 6 g1, cR cI (a2 2) 72 g2, cR cI (a2 3) 12 g3, cR cI (a2 4) 6 g4, cR cI (a2 5) 6 g5, cR cI (a2 6) 6 g6] sz) [cT t a n k d v, cR cI (a 0) 6 (zcp g0 f0 6), cR cI (a 1) 6 (zcp g1 f1 6), cR cI (a 2) 72 (zcp g2 f2 72), cR cI (a 3) 12 f3, cR cI (a 4) 6 f4, cR cI (a 5) 6 f5, cR cI (a 6) 6 f6, cT t2 a2 n k d v, cR cI (a2 0) 6 g0, cR cI (a2 1) 6 g1, cR cI (a2 2) 72 g2, cR cI (a2 3) 12 g3, cR cI (a2 4) 6 g4, cR cI (a2 5) 6 g5, cR cI (a2 6) 6 g6] := hD
  refine lv_aload_n hx hb dX1_copy_77 rfl (lv_at hl 1 rfl) ?_
  refine va_get (D := D) (ci := 1) (v := .ref (a2 3)) (C := RX1) (T := TX1) (N := 11) hx hb hts inT_X1 hown hE.1 hP 8 rfl rfl 7 (by decide) (hts _ qf_X1_21) (fun _ h9 => h9) rfl dX1_copy_78 ?_
  refine lv_iconst (v := zI 0) hx hb dX1_copy_81 rfl ?_
  refine lv_aload_n hx hb dX1_copy_82 rfl (lv_at hl 0 rfl) ?_
  refine va_get (D := D) (ci := 1) (v := .ref (a 3)) (C := RX1) (T := TX1) (N := 11) hx hb hts inT_X1 hown hE.1 hP 0 rfl rfl 7 (by decide) (hts _ qf_X1_21) (fun _ h9 => h9) rfl dX1_copy_83 ?_
  refine lv_iconst (v := zI 0) hx hb dX1_copy_86 rfl ?_
  refine lv_bipush (v := zI 12) hx hb dX1_copy_87 (by decide) ?_
  refine z_copy hx hb (by rw [hml]; exact hl.1.symm) hown (hts _ qm_X1_49) (hts _ qv_acopy) (hts _ qs_acopy) (hts _ qn_System) hE hP hD hS 12 4 rfl rfl 12 (by omega) (by omega) (by decide) (by decide) (by decide) (Nat.le_of_ble_eq_true rfl) (zcp g3 f3 12) rfl dX1_copy_89 (fun H locs hP hD hS => ?_)
  have hP : va_P D cls [cT t a n k d v, cR cI (a 0) 6 (zcp g0 f0 6), cR cI (a 1) 6 (zcp g1 f1 6), cR cI (a 2) 72 (zcp g2 f2 72), cR cI (a 3) 12 (zcp g3 f3 12), cR cI (a 4) 6 f4, cR cI (a 5) 6 f5, cR cI (a 6) 6 f6, cT t2 a2 n k d v, cR cI (a2 0) 6 g0, cR cI (a2 1) 6 g1, cR cI (a2 2) 72 g2, cR cI (a2 3) 12 g3, cR cI (a2 4) 6 g4, cR cI (a2 5) 6 g5, cR cI (a2 6) 6 g6] H := hP
  have hD : va_D (va_A [cT t a n0 k0 d0 v0, cR cI (a 0) 6 f0, cR cI (a 1) 6 f1, cR cI (a 2) 72 f2, cR cI (a 3) 12 f3, cR cI (a 4) 6 f4, cR cI (a 5) 6 f5, cR cI (a 6) 6 f6, cT t2 a2 n k d v, cR cI (a2 0) 6 g0, cR cI (a2 1) 6 g1, cR cI (a2 2) 72 g2, cR cI (a2 3) 12 g3, cR cI (a2 4) 6 g4, cR cI (a2 5) 6 g5, cR cI (a2 6) 6 g6] sz) [cT t a n k d v, cR cI (a 0) 6 (zcp g0 f0 6), cR cI (a 1) 6 (zcp g1 f1 6), cR cI (a 2) 72 (zcp g2 f2 72), cR cI (a 3) 12 (zcp g3 f3 12), cR cI (a 4) 6 f4, cR cI (a 5) 6 f5, cR cI (a 6) 6 f6, cT t2 a2 n k d v, cR cI (a2 0) 6 g0, cR cI (a2 1) 6 g1, cR cI (a2 2) 72 g2, cR cI (a2 3) 12 g3, cR cI (a2 4) 6 g4, cR cI (a2 5) 6 g5, cR cI (a2 6) 6 g6] := hD
  refine lv_aload_n hx hb dX1_copy_92 rfl (lv_at hl 1 rfl) ?_
  refine va_get (D := D) (ci := 1) (v := .ref (a2 4)) (C := RX1) (T := TX1) (N := 11) hx hb hts inT_X1 hown hE.1 hP 8 rfl rfl 8 (by decide) (hts _ qf_X1_24) (fun _ h9 => h9) rfl dX1_copy_93 ?_
  refine lv_iconst (v := zI 0) hx hb dX1_copy_96 rfl ?_
  refine lv_aload_n hx hb dX1_copy_97 rfl (lv_at hl 0 rfl) ?_
  refine va_get (D := D) (ci := 1) (v := .ref (a 4)) (C := RX1) (T := TX1) (N := 11) hx hb hts inT_X1 hown hE.1 hP 0 rfl rfl 8 (by decide) (hts _ qf_X1_24) (fun _ h9 => h9) rfl dX1_copy_98 ?_
  refine lv_iconst (v := zI 0) hx hb dX1_copy_101 rfl ?_
  refine lv_bipush (v := zI 6) hx hb dX1_copy_102 (by decide) ?_
  refine z_copy hx hb (by rw [hml]; exact hl.1.symm) hown (hts _ qm_X1_49) (hts _ qv_acopy) (hts _ qs_acopy) (hts _ qn_System) hE hP hD hS 13 5 rfl rfl 6 (by omega) (by omega) (by decide) (by decide) (by decide) (Nat.le_of_ble_eq_true rfl) (zcp g4 f4 6) rfl dX1_copy_104 (fun H locs hP hD hS => ?_)
  have hP : va_P D cls [cT t a n k d v, cR cI (a 0) 6 (zcp g0 f0 6), cR cI (a 1) 6 (zcp g1 f1 6), cR cI (a 2) 72 (zcp g2 f2 72), cR cI (a 3) 12 (zcp g3 f3 12), cR cI (a 4) 6 (zcp g4 f4 6), cR cI (a 5) 6 f5, cR cI (a 6) 6 f6, cT t2 a2 n k d v, cR cI (a2 0) 6 g0, cR cI (a2 1) 6 g1, cR cI (a2 2) 72 g2, cR cI (a2 3) 12 g3, cR cI (a2 4) 6 g4, cR cI (a2 5) 6 g5, cR cI (a2 6) 6 g6] H := hP
  have hD : va_D (va_A [cT t a n0 k0 d0 v0, cR cI (a 0) 6 f0, cR cI (a 1) 6 f1, cR cI (a 2) 72 f2, cR cI (a 3) 12 f3, cR cI (a 4) 6 f4, cR cI (a 5) 6 f5, cR cI (a 6) 6 f6, cT t2 a2 n k d v, cR cI (a2 0) 6 g0, cR cI (a2 1) 6 g1, cR cI (a2 2) 72 g2, cR cI (a2 3) 12 g3, cR cI (a2 4) 6 g4, cR cI (a2 5) 6 g5, cR cI (a2 6) 6 g6] sz) [cT t a n k d v, cR cI (a 0) 6 (zcp g0 f0 6), cR cI (a 1) 6 (zcp g1 f1 6), cR cI (a 2) 72 (zcp g2 f2 72), cR cI (a 3) 12 (zcp g3 f3 12), cR cI (a 4) 6 (zcp g4 f4 6), cR cI (a 5) 6 f5, cR cI (a 6) 6 f6, cT t2 a2 n k d v, cR cI (a2 0) 6 g0, cR cI (a2 1) 6 g1, cR cI (a2 2) 72 g2, cR cI (a2 3) 12 g3, cR cI (a2 4) 6 g4, cR cI (a2 5) 6 g5, cR cI (a2 6) 6 g6] := hD
  refine lv_aload_n hx hb dX1_copy_107 rfl (lv_at hl 1 rfl) ?_
  refine va_get (D := D) (ci := 1) (v := .ref (a2 5)) (C := RX1) (T := TX1) (N := 11) hx hb hts inT_X1 hown hE.1 hP 8 rfl rfl 9 (by decide) (hts _ qf_X1_27) (fun _ h9 => h9) rfl dX1_copy_108 ?_
  refine lv_iconst (v := zI 0) hx hb dX1_copy_111 rfl ?_
  refine lv_aload_n hx hb dX1_copy_112 rfl (lv_at hl 0 rfl) ?_
  refine va_get (D := D) (ci := 1) (v := .ref (a 5)) (C := RX1) (T := TX1) (N := 11) hx hb hts inT_X1 hown hE.1 hP 0 rfl rfl 9 (by decide) (hts _ qf_X1_27) (fun _ h9 => h9) rfl dX1_copy_113 ?_
  refine lv_iconst (v := zI 0) hx hb dX1_copy_116 rfl ?_
  refine lv_bipush (v := zI 6) hx hb dX1_copy_117 (by decide) ?_
  refine z_copy hx hb (by rw [hml]; exact hl.1.symm) hown (hts _ qm_X1_49) (hts _ qv_acopy) (hts _ qs_acopy) (hts _ qn_System) hE hP hD hS 14 6 rfl rfl 6 (by omega) (by omega) (by decide) (by decide) (by decide) (Nat.le_of_ble_eq_true rfl) (zcp g5 f5 6) rfl dX1_copy_119 (fun H locs hP hD hS => ?_)
  have hP : va_P D cls [cT t a n k d v, cR cI (a 0) 6 (zcp g0 f0 6), cR cI (a 1) 6 (zcp g1 f1 6), cR cI (a 2) 72 (zcp g2 f2 72), cR cI (a 3) 12 (zcp g3 f3 12), cR cI (a 4) 6 (zcp g4 f4 6), cR cI (a 5) 6 (zcp g5 f5 6), cR cI (a 6) 6 f6, cT t2 a2 n k d v, cR cI (a2 0) 6 g0, cR cI (a2 1) 6 g1, cR cI (a2 2) 72 g2, cR cI (a2 3) 12 g3, cR cI (a2 4) 6 g4, cR cI (a2 5) 6 g5, cR cI (a2 6) 6 g6] H := hP
  have hD : va_D (va_A [cT t a n0 k0 d0 v0, cR cI (a 0) 6 f0, cR cI (a 1) 6 f1, cR cI (a 2) 72 f2, cR cI (a 3) 12 f3, cR cI (a 4) 6 f4, cR cI (a 5) 6 f5, cR cI (a 6) 6 f6, cT t2 a2 n k d v, cR cI (a2 0) 6 g0, cR cI (a2 1) 6 g1, cR cI (a2 2) 72 g2, cR cI (a2 3) 12 g3, cR cI (a2 4) 6 g4, cR cI (a2 5) 6 g5, cR cI (a2 6) 6 g6] sz) [cT t a n k d v, cR cI (a 0) 6 (zcp g0 f0 6), cR cI (a 1) 6 (zcp g1 f1 6), cR cI (a 2) 72 (zcp g2 f2 72), cR cI (a 3) 12 (zcp g3 f3 12), cR cI (a 4) 6 (zcp g4 f4 6), cR cI (a 5) 6 (zcp g5 f5 6), cR cI (a 6) 6 f6, cT t2 a2 n k d v, cR cI (a2 0) 6 g0, cR cI (a2 1) 6 g1, cR cI (a2 2) 72 g2, cR cI (a2 3) 12 g3, cR cI (a2 4) 6 g4, cR cI (a2 5) 6 g5, cR cI (a2 6) 6 g6] := hD
  refine lv_aload_n hx hb dX1_copy_122 rfl (lv_at hl 1 rfl) ?_
  refine va_get (D := D) (ci := 1) (v := .ref (a2 6)) (C := RX1) (T := TX1) (N := 11) hx hb hts inT_X1 hown hE.1 hP 8 rfl rfl 10 (by decide) (hts _ qf_X1_30) (fun _ h9 => h9) rfl dX1_copy_123 ?_
  refine lv_iconst (v := zI 0) hx hb dX1_copy_126 rfl ?_
  refine lv_aload_n hx hb dX1_copy_127 rfl (lv_at hl 0 rfl) ?_
  refine va_get (D := D) (ci := 1) (v := .ref (a 6)) (C := RX1) (T := TX1) (N := 11) hx hb hts inT_X1 hown hE.1 hP 0 rfl rfl 10 (by decide) (hts _ qf_X1_30) (fun _ h9 => h9) rfl dX1_copy_128 ?_
  refine lv_iconst (v := zI 0) hx hb dX1_copy_131 rfl ?_
  refine lv_bipush (v := zI 6) hx hb dX1_copy_132 (by decide) ?_
  refine z_copy hx hb (by rw [hml]; exact hl.1.symm) hown (hts _ qm_X1_49) (hts _ qv_acopy) (hts _ qs_acopy) (hts _ qn_System) hE hP hD hS 15 7 rfl rfl 6 (by omega) (by omega) (by decide) (by decide) (by decide) (Nat.le_of_ble_eq_true rfl) (zcp g6 f6 6) rfl dX1_copy_134 (fun H locs hP hD hS => ?_)
  have hP : va_P D cls [cT t a n k d v, cR cI (a 0) 6 (zcp g0 f0 6), cR cI (a 1) 6 (zcp g1 f1 6), cR cI (a 2) 72 (zcp g2 f2 72), cR cI (a 3) 12 (zcp g3 f3 12), cR cI (a 4) 6 (zcp g4 f4 6), cR cI (a 5) 6 (zcp g5 f5 6), cR cI (a 6) 6 (zcp g6 f6 6), cT t2 a2 n k d v, cR cI (a2 0) 6 g0, cR cI (a2 1) 6 g1, cR cI (a2 2) 72 g2, cR cI (a2 3) 12 g3, cR cI (a2 4) 6 g4, cR cI (a2 5) 6 g5, cR cI (a2 6) 6 g6] H := hP
  have hD : va_D (va_A [cT t a n0 k0 d0 v0, cR cI (a 0) 6 f0, cR cI (a 1) 6 f1, cR cI (a 2) 72 f2, cR cI (a 3) 12 f3, cR cI (a 4) 6 f4, cR cI (a 5) 6 f5, cR cI (a 6) 6 f6, cT t2 a2 n k d v, cR cI (a2 0) 6 g0, cR cI (a2 1) 6 g1, cR cI (a2 2) 72 g2, cR cI (a2 3) 12 g3, cR cI (a2 4) 6 g4, cR cI (a2 5) 6 g5, cR cI (a2 6) 6 g6] sz) [cT t a n k d v, cR cI (a 0) 6 (zcp g0 f0 6), cR cI (a 1) 6 (zcp g1 f1 6), cR cI (a 2) 72 (zcp g2 f2 72), cR cI (a 3) 12 (zcp g3 f3 12), cR cI (a 4) 6 (zcp g4 f4 6), cR cI (a 5) 6 (zcp g5 f5 6), cR cI (a 6) 6 (zcp g6 f6 6), cT t2 a2 n k d v, cR cI (a2 0) 6 g0, cR cI (a2 1) 6 g1, cR cI (a2 2) 72 g2, cR cI (a2 3) 12 g3, cR cI (a2 4) 6 g4, cR cI (a2 5) 6 g5, cR cI (a2 6) 6 g6] := hD
  rw [← hQf]
  exact z_vret K hS () trivial hP hD dX1_copy_137
set_option maxHeartbeats 4000000 in
set_option maxRecDepth 100000 in
theorem c_X2_ringLength (l : Launch) (D : va_G) (cI : ClassId) (h wa : Nat) (n : Nat) (f : Nat → Int) (φ : Nat → Nat) (p0 : Nat) (hn : n ≤ 12) (hf : ∀ j, j < n → f j = ((φ j : Nat) : Int)) (hφ : ∀ j, j < n → φ j < n) (hp0 : p0 < n) : zMi l yX2_ringLength cX2_ringLength 4 (some .int) ({ frames := 0, cells := 0, slots := 0, locals := 0 }) D cI [.ref h, .int (zI ((p0 : Nat) : Int))] [cW h wa ((n : Nat) : Int), cR cI wa 12 f] (fun (z : Int) (u : Unit) => z = (((rl φ n p0) : Nat) : Int)) (fun (u : Unit) => [cW h wa ((n : Nat) : Int), cR cI wa 12 f]) := by
  intro sz
  refine zstart rfl (by decide) (Nat.le_of_ble_eq_true rfl) ?_
  intro p e s m below meth c ls K hnm hsz hP hD hS hl
  generalize hargs : ([.ref h, .int (zI ((p0 : Nat) : Int))] : List Value).toArray = args at K ⊢
  generalize hQf : MQ below _ args s _ _ _ = Qf
  have K : zK p s m args meth c cX2_ringLength 4 RX2 (some .int) D cI := K
  obtain ⟨hx, hb, hml, hown, hts, hE, -, -⟩ := id K
  have hA := zhA (ws0 := [cW h wa ((n : Nat) : Int), cR cI wa 12 f]) hsz
  have hl : lv_has ls 4 [(0, .ref h), (1, .int (zI ((p0 : Nat) : Int)))] := hl
  refine lv_iconst (v := zI 1) hx hb dX2_ringLength_0 rfl ?_
  refine lv_istore_n (lv' := [(2, .int (zI 1)), (0, .ref h), (1, .int (zI ((p0 : Nat) : Int)))]) hx hb dX2_ringLength_1 rfl hl (by decide) rfl (fun ls hl => ?_)
  refine lv_aload_n hx hb dX2_ringLength_2 rfl (lv_at hl 1 rfl) ?_
  refine va_get (D := D) (ci := 2) (v := .ref wa) (C := RX2) (T := TX2) (N := 2) hx hb hts inT_X2 hown hE.1 hP 0 rfl rfl 1 (by decide) (hts _ qf_X2_9) (fun _ h9 => h9) rfl dX2_ringLength_3 ?_
  refine lv_iload_n hx hb dX2_ringLength_6 rfl (lv_at hl 2 rfl) ?_
  have hφ_p0 := hφ (p0) (by omega)
  refine z_iald hx hb hE hP 1 rfl p0 (by omega) (by omega) (by first | decide | omega) ((φ p0 : Nat) : Int) (hf (p0) (by omega)) dX2_ringLength_7 ?_
  refine lv_istore_n (lv' := [(3, .int (zI ((φ p0 : Nat) : Int))), (2, .int (zI 1)), (0, .ref h), (1, .int (zI ((p0 : Nat) : Int)))]) hx hb dX2_ringLength_8 rfl hl (by decide) rfl (fun ls hl => ?_)
  have cut_9 : ∀ (N_9 : Nat), ∀ (i r : Nat), n - i < N_9 → (i + 1 ≤ n) → (r = it φ (i + 1) p0) → (r < n) → (∀ j, j < i → it φ (j + 1) p0 ≠ p0) → ∀ (H : Heap) (locs : List Loc) (ls : Array Slot), va_P D cls [cW h wa ((n : Nat) : Int), cR cI wa 12 f] H → va_D (va_A [cW h wa ((n : Nat) : Int), cR cI wa 12 f] sz) [cW h wa ((n : Nat) : Int), cR cI wa 12 f] → va_S (va_A [cW h wa ((n : Nat) : Int), cR cI wa 12 f] sz) s.heap H locs → lv_has ls 4 [(0, .ref h), (1, .int (zI ((p0 : Nat) : Int))), (2, .int (zI (((i + 1) : Nat) : Int))), (3, .int (zI ((r : Nat) : Int)))] → W p l e ({ frames := 0, cells := 0, slots := 0, locals := 0 }) s m args below meth c H locs 0 0 Qf (F0 m 9 ls []) := by
    intro N_9
    induction N_9 with
    | zero => intro i r hm_9; exact absurd hm_9 (Nat.not_lt_zero _)
    | succ N_9 ih_9 =>
      intro i r hm_9 hi hr1 hr2 hno H locs ls hP hD hS hl
      refine lv_iload_n hx hb dX2_ringLength_9 rfl (lv_at hl 3 rfl) ?_
      refine lv_iload_n hx hb dX2_ringLength_10 rfl (lv_at hl 1 rfl) ?_
      refine z_icmp_eq (tgt := 35) hx hb (by omega) dX2_ringLength_11 (by decide) (fun c_11 => ?_) (fun c_11 => ?_)
      · refine lv_iload_n hx hb dX2_ringLength_35 rfl (lv_at hl 2 rfl) ?_
        rw [← hQf]
        exact z_iret K hS () (by first | (rw [rl_is hno (Or.inl (by omega))]; done) | (rcases (show i = n - 1 ∨ i < n - 1 by omega) with h9 | h9; rw [rl_is hno (Or.inl h9)]; rw [rl_is hno (Or.inr ⟨h9, by omega⟩)])) hP hD dX2_ringLength_36
      · refine lv_iload_n hx hb dX2_ringLength_14 rfl (lv_at hl 2 rfl) ?_
        refine lv_aload_n hx hb dX2_ringLength_15 rfl (lv_at hl 0 rfl) ?_
        refine va_get (D := D) (ci := 2) (v := .int (zI ((n : Nat) : Int))) (C := RX2) (T := TX2) (N := 2) hx hb hts inT_X2 hown hE.1 hP 0 rfl rfl 0 (by decide) (hts _ qf_X2_15) (fun _ h9 => h9) rfl dX2_ringLength_16 ?_
        refine z_icmp_ge (tgt := 35) hx hb (by omega) dX2_ringLength_19 (by decide) (fun c_19 => ?_) (fun c_19 => ?_)
        · refine lv_iload_n hx hb dX2_ringLength_35 rfl (lv_at hl 2 rfl) ?_
          rw [← hQf]
          exact z_iret K hS () (by first | (rw [rl_is hno (Or.inl (by omega))]; done) | (rcases (show i = n - 1 ∨ i < n - 1 by omega) with h9 | h9; rw [rl_is hno (Or.inl h9)]; rw [rl_is hno (Or.inr ⟨h9, by omega⟩)])) hP hD dX2_ringLength_36
        · refine lv_aload_n hx hb dX2_ringLength_22 rfl (lv_at hl 0 rfl) ?_
          refine va_get (D := D) (ci := 2) (v := .ref wa) (C := RX2) (T := TX2) (N := 2) hx hb hts inT_X2 hown hE.1 hP 0 rfl rfl 1 (by decide) (hts _ qf_X2_9) (fun _ h9 => h9) rfl dX2_ringLength_23 ?_
          refine lv_iload_n hx hb dX2_ringLength_26 rfl (lv_at hl 3 rfl) ?_
          have hφ_r := hφ (r) (by omega)
          refine z_iald hx hb hE hP 1 rfl r (by omega) (by omega) (by first | decide | omega) ((φ r : Nat) : Int) (hf (r) (by omega)) dX2_ringLength_27 ?_
          refine lv_istore_n (lv' := [(3, .int (zI ((φ r : Nat) : Int))), (0, .ref h), (1, .int (zI ((p0 : Nat) : Int))), (2, .int (zI (((i + 1) : Nat) : Int)))]) hx hb dX2_ringLength_28 rfl hl (by decide) rfl (fun ls hl => ?_)
          refine z_iinc (k := 3) (lv' := [(2, .int (zI (((i + 2) : Nat) : Int))), (3, .int (zI ((φ r : Nat) : Int))), (0, .ref h), (1, .int (zI ((p0 : Nat) : Int)))]) hx hb (((i + 2) : Nat) : Int) (by omega) dX2_ringLength_29 hl rfl (by decide) rfl (fun ls hl => ?_)
          refine lv_goto (tgt := 9) hx hb dX2_ringLength_32 (by decide) ?_
          exact ih_9 (i + 1) (φ r) (by omega) (by omega) (by rw [hr1]; rfl) (by omega) (by intro j hj; rcases Nat.lt_or_ge j i with h1 | h1; exact hno j h1; rw [show j = i by omega, ← hr1]; omega) _ _ _ hP hD hS (lv_sub hl [2, 3, 0, 1] rfl)
  exact cut_9 (n - 0 + 1) 0 (φ p0) (Nat.lt_succ_self _) (by omega) (by rfl) (by omega) (by intro j hj; omega) _ _ _ hP hD hS (lv_sub hl [2, 3, 1, 0] rfl)
set_option maxHeartbeats 4000000 in
set_option maxRecDepth 100000 in
theorem c_X2_placeAfter (l : Launch) (D : va_G) (cI : ClassId) (h wa : Nat) (n : Nat) (f : Nat → Int) (φ : Nat → Nat) (p0 x : Nat) (hn : n ≤ 12) (hf : ∀ j, j < n → f j = ((φ j : Nat) : Int)) (hφ : ∀ j, j < n → φ j < n) (hp0 : p0 < n) (hx0 : x < 2147483648) : zMi l yX2_placeAfter cX2_placeAfter 6 (some .int) ({ frames := 1, cells := 0, slots := 0, locals := 23 }) D cI [.ref h, .int (zI ((p0 : Nat) : Int)), .int (zI ((x : Nat) : Int))] [cW h wa ((n : Nat) : Int), cR cI wa 12 f] (fun (z : Int) (u : Unit) => z = (((it φ (x % rl φ n p0) p0) : Nat) : Int)) (fun (u : Unit) => [cW h wa ((n : Nat) : Int), cR cI wa 12 f]) := by
  intro sz
  refine zstart rfl (by decide) (Nat.le_of_ble_eq_true rfl) ?_
  intro p e s m below meth c ls K hnm hsz hP hD hS hl
  generalize hargs : ([.ref h, .int (zI ((p0 : Nat) : Int)), .int (zI ((x : Nat) : Int))] : List Value).toArray = args at K ⊢
  generalize hQf : MQ below _ args s _ _ _ = Qf
  have K : zK p s m args meth c cX2_placeAfter 6 RX2 (some .int) D cI := K
  obtain ⟨hx, hb, hml, hown, hts, hE, -, -⟩ := id K
  have hA := zhA (ws0 := [cW h wa ((n : Nat) : Int), cR cI wa 12 f]) hsz
  have hl : lv_has ls 6 [(0, .ref h), (1, .int (zI ((p0 : Nat) : Int))), (2, .int (zI ((x : Nat) : Int)))] := hl
  have hr1 := rl_pos φ n p0
  have hr2 := rl_le (φ := φ) hp0
  have hr3 := Nat.mod_lt x (show 0 < rl φ n p0 by omega)
  refine lv_iload_n hx hb dX2_placeAfter_0 rfl (lv_at hl 2 rfl) ?_
  refine lv_iconst (v := zI 1) hx hb dX2_placeAfter_1 rfl ?_
  refine lv_aload_n hx hb dX2_placeAfter_2 rfl (lv_at hl 0 rfl) ?_
  refine lv_iload_n hx hb dX2_placeAfter_3 rfl (lv_at hl 1 rfl) ?_
  refine zcall_i (wc := [cW h wa ((n : Nat) : Int), cR cI wa 12 f]) (wr := []) (rest := [.int (zI 1), .int (zI ((x : Nat) : Int))]) hE hP hD hS hA [0, 1] [] [0, 1] rfl rfl (by decide) (by decide) (by decide) (fun (u : Unit) => [cW h wa ((n : Nat) : Int), cR cI wa 12 f]) (fun u => rfl) (fun hPc hDc => zrunV (As := [.int (zI ((p0 : Nat) : Int))]) (rest := [.int (zI 1), .int (zI ((x : Nat) : Int))]) (q0 := 0) (ci := 2) K k_X2_ringLength qm_X2_25 ⟨⟨rfl, rfl⟩, ⟨Nat.le_of_ble_eq_true rfl, Nat.le_of_ble_eq_true rfl⟩⟩ rfl rfl hPc hDc (c_X2_ringLength l D cI h wa n f φ p0 (by first | assumption | omega) (by first | assumption | omega) (by first | assumption | omega) (by first | assumption | omega) _) rfl hl.1 rfl (Nat.le_of_ble_eq_true rfl) dX2_placeAfter_4 ⟨Nat.zero_le _, Nat.zero_le _⟩) (by decide) (fun z u H locs hpost hP hD hS => ?_)
  subst hpost
  have hP : va_P D cls [cW h wa ((n : Nat) : Int), cR cI wa 12 f] H := hP
  have hD : va_D (va_A [cW h wa ((n : Nat) : Int), cR cI wa 12 f] sz) [cW h wa ((n : Nat) : Int), cR cI wa 12 f] := hD
  refine W.eq (g2 := F0 m 7 ls [.int (zI (((rl φ n p0) : Nat) : Int)), .int (zI 1), .int (zI ((x : Nat) : Int))]) rfl ?_
  refine z_Mmax hx hb (by rw [hml]; exact hl.1.symm) hown (hts _ qm_X2_29) (hts _ qs_Mmax) (hts _ qn_Math) (hts _ qc_Mmax) (by decide) (Nat.le_of_ble_eq_true rfl) (by decide) (by decide) (by omega) ((rl φ n p0 : Nat) : Int) (by split <;> omega) dX2_placeAfter_7 ?_
  refine z_irem hx hb (((x % (rl φ n p0)) : Nat) : Int) (by omega) rfl dX2_placeAfter_10 ?_
  refine lv_istore_n (lv' := [(3, .int (zI (((x % (rl φ n p0)) : Nat) : Int))), (0, .ref h), (1, .int (zI ((p0 : Nat) : Int))), (2, .int (zI ((x : Nat) : Int)))]) hx hb dX2_placeAfter_11 rfl hl (by decide) rfl (fun ls hl => ?_)
  refine lv_iload_n hx hb dX2_placeAfter_12 rfl (lv_at hl 2 rfl) ?_
  refine lv_istore (lv' := [(4, .int (zI ((p0 : Nat) : Int))), (3, .int (zI (((x % (rl φ n p0)) : Nat) : Int))), (0, .ref h), (1, .int (zI ((p0 : Nat) : Int))), (2, .int (zI ((x : Nat) : Int)))]) hx hb dX2_placeAfter_13 hl (by decide) rfl (fun ls hl => ?_)
  refine lv_iconst (v := zI 0) hx hb dX2_placeAfter_15 rfl ?_
  refine lv_istore (lv' := [(5, .int (zI 0)), (4, .int (zI ((p0 : Nat) : Int))), (3, .int (zI (((x % (rl φ n p0)) : Nat) : Int))), (0, .ref h), (1, .int (zI ((p0 : Nat) : Int))), (2, .int (zI ((x : Nat) : Int)))]) hx hb dX2_placeAfter_16 hl (by decide) rfl (fun ls hl => ?_)
  have cut_18 : ∀ (N_18 : Nat), ∀ (i r : Nat), x % rl φ n p0 - i < N_18 → (i ≤ x % rl φ n p0) → (r = it φ i p0) → (r < n) → ∀ (H : Heap) (locs : List Loc) (ls : Array Slot), va_P D cls [cW h wa ((n : Nat) : Int), cR cI wa 12 f] H → va_D (va_A [cW h wa ((n : Nat) : Int), cR cI wa 12 f] sz) [cW h wa ((n : Nat) : Int), cR cI wa 12 f] → va_S (va_A [cW h wa ((n : Nat) : Int), cR cI wa 12 f] sz) s.heap H locs → lv_has ls 6 [(0, .ref h), (1, .int (zI ((p0 : Nat) : Int))), (2, .int (zI ((x : Nat) : Int))), (3, .int (zI (((x % (rl φ n p0)) : Nat) : Int))), (4, .int (zI ((r : Nat) : Int))), (5, .int (zI ((i : Nat) : Int)))] → W p l e ({ frames := 1, cells := 0, slots := 0, locals := 23 }) s m args below meth c H locs 0 0 Qf (F0 m 18 ls []) := by
    intro N_18
    induction N_18 with
    | zero => intro i r hm_18; exact absurd hm_18 (Nat.not_lt_zero _)
    | succ N_18 ih_18 =>
      intro i r hm_18 hi hr4 hr5 H locs ls hP hD hS hl
      refine lv_iload hx hb dX2_placeAfter_18 (lv_at hl 5 rfl) ?_
      refine lv_iload_n hx hb dX2_placeAfter_20 rfl (lv_at hl 3 rfl) ?_
      refine z_icmp_ge (tgt := 39) hx hb (by omega) dX2_placeAfter_21 (by decide) (fun c_21 => ?_) (fun c_21 => ?_)
      · refine lv_iload hx hb dX2_placeAfter_39 (lv_at hl 4 rfl) ?_
        rw [← hQf]
        exact z_iret K hS () (by rw [hr4, show i = x % rl φ n p0 by omega]) hP hD dX2_placeAfter_41
      · refine lv_aload_n hx hb dX2_placeAfter_24 rfl (lv_at hl 0 rfl) ?_
        refine va_get (D := D) (ci := 2) (v := .ref wa) (C := RX2) (T := TX2) (N := 2) hx hb hts inT_X2 hown hE.1 hP 0 rfl rfl 1 (by decide) (hts _ qf_X2_9) (fun _ h9 => h9) rfl dX2_placeAfter_25 ?_
        refine lv_iload hx hb dX2_placeAfter_28 (lv_at hl 4 rfl) ?_
        have hφ_r := hφ (r) (by omega)
        refine z_iald hx hb hE hP 1 rfl r (by omega) (by omega) (by first | decide | omega) ((φ r : Nat) : Int) (hf (r) (by omega)) dX2_placeAfter_30 ?_
        refine lv_istore (lv' := [(4, .int (zI ((φ r : Nat) : Int))), (0, .ref h), (1, .int (zI ((p0 : Nat) : Int))), (2, .int (zI ((x : Nat) : Int))), (3, .int (zI (((x % (rl φ n p0)) : Nat) : Int))), (5, .int (zI ((i : Nat) : Int)))]) hx hb dX2_placeAfter_31 hl (by decide) rfl (fun ls hl => ?_)
        refine z_iinc (k := 5) (lv' := [(5, .int (zI (((i + 1) : Nat) : Int))), (4, .int (zI ((φ r : Nat) : Int))), (0, .ref h), (1, .int (zI ((p0 : Nat) : Int))), (2, .int (zI ((x : Nat) : Int))), (3, .int (zI (((x % (rl φ n p0)) : Nat) : Int)))]) hx hb (((i + 1) : Nat) : Int) (by omega) dX2_placeAfter_33 hl rfl (by decide) rfl (fun ls hl => ?_)
        refine lv_goto (tgt := 18) hx hb dX2_placeAfter_36 (by decide) ?_
        exact ih_18 (i + 1) (φ r) (by omega) (by omega) (by rw [hr4]; rfl) (by exact hφ_r) _ _ _ hP hD hS (lv_sub hl [2, 3, 4, 5, 1, 0] rfl)
  exact cut_18 (x % rl φ n p0 - 0 + 1) 0 p0 (Nat.lt_succ_self _) (by omega) (by rfl) (by exact hp0) _ _ _ hP hD hS (lv_sub hl [3, 4, 5, 2, 1, 0] rfl)
set_option maxHeartbeats 4000000 in
set_option maxRecDepth 100000 in
theorem c_X2_order (l : Launch) (D : va_G) (cI : ClassId) (h wa : Nat) (n : Nat) (f : Nat → Int) (φ : Nat → Nat) (hn : n ≤ 12) (hf : ∀ j, j < n → f j = ((φ j : Nat) : Int)) (hφ : ∀ j, j < n → φ j < n) : zMi l yX2_order cX2_order 4 (some .int) ({ frames := 1, cells := 0, slots := 0, locals := 25 }) D cI [.ref h] [cW h wa ((n : Nat) : Int), cR cI wa 12 f] (fun (z : Int) (u : Unit) => z = (((odN φ n n) : Nat) : Int)) (fun (u : Unit) => [cW h wa ((n : Nat) : Int), cR cI wa 12 f]) := by
  intro sz
  refine zstart rfl (by decide) (Nat.le_of_ble_eq_true rfl) ?_
  intro p e s m below meth c ls K hnm hsz hP hD hS hl
  generalize hargs : ([.ref h] : List Value).toArray = args at K ⊢
  generalize hQf : MQ below _ args s _ _ _ = Qf
  have K : zK p s m args meth c cX2_order 4 RX2 (some .int) D cI := K
  obtain ⟨hx, hb, hml, hown, hts, hE, -, -⟩ := id K
  have hA := zhA (ws0 := [cW h wa ((n : Nat) : Int), cR cI wa 12 f]) hsz
  have hl : lv_has ls 4 [(0, .ref h)] := hl
  refine lv_iconst (v := zI 1) hx hb dX2_order_0 rfl ?_
  refine lv_istore_n (lv' := [(1, .int (zI 1)), (0, .ref h)]) hx hb dX2_order_1 rfl hl (by decide) rfl (fun ls hl => ?_)
  refine lv_iconst (v := zI 0) hx hb dX2_order_2 rfl ?_
  refine lv_istore_n (lv' := [(2, .int (zI 0)), (1, .int (zI 1)), (0, .ref h)]) hx hb dX2_order_3 rfl hl (by decide) rfl (fun ls hl => ?_)
  have cut_4 : ∀ (N_4 : Nat), ∀ (i y : Nat), n - i < N_4 → (i ≤ n) → (y = odN φ n i) → ∀ (H : Heap) (locs : List Loc) (ls : Array Slot), va_P D cls [cW h wa ((n : Nat) : Int), cR cI wa 12 f] H → va_D (va_A [cW h wa ((n : Nat) : Int), cR cI wa 12 f] sz) [cW h wa ((n : Nat) : Int), cR cI wa 12 f] → va_S (va_A [cW h wa ((n : Nat) : Int), cR cI wa 12 f] sz) s.heap H locs → lv_has ls 4 [(0, .ref h), (1, .int (zI ((y : Nat) : Int))), (2, .int (zI ((i : Nat) : Int)))] → W p l e ({ frames := 1, cells := 0, slots := 0, locals := 25 }) s m args below meth c H locs 0 0 Qf (F0 m 4 ls []) := by
    intro N_4
    induction N_4 with
    | zero => intro i y hm_4; exact absurd hm_4 (Nat.not_lt_zero _)
    | succ N_4 ih_4 =>
      intro i y hm_4 hi hy H locs ls hP hD hS hl
      refine lv_iload_n hx hb dX2_order_4 rfl (lv_at hl 2 rfl) ?_
      refine lv_aload_n hx hb dX2_order_5 rfl (lv_at hl 0 rfl) ?_
      refine va_get (D := D) (ci := 2) (v := .int (zI ((n : Nat) : Int))) (C := RX2) (T := TX2) (N := 2) hx hb hts inT_X2 hown hE.1 hP 0 rfl rfl 0 (by decide) (hts _ qf_X2_15) (fun _ h9 => h9) rfl dX2_order_6 ?_
      refine z_icmp_ge (tgt := 38) hx hb (by omega) dX2_order_9 (by decide) (fun c_9 => ?_) (fun c_9 => ?_)
      · refine lv_iload_n hx hb dX2_order_38 rfl (lv_at hl 1 rfl) ?_
        rw [← hQf]
        exact z_iret K hS () (by rw [hy, show i = n by omega]) hP hD dX2_order_39
      · refine lv_aload_n hx hb dX2_order_12 rfl (lv_at hl 0 rfl) ?_
        refine lv_iload_n hx hb dX2_order_13 rfl (lv_at hl 2 rfl) ?_
        have hr1 := rl_pos φ n i
        have hr2 := rl_le (φ := φ) (n := n) (p := i) (by omega)
        have ho := od_le (φ := φ) (n := n) (i := i) hn hi
        rw [← hy] at ho
        have hgp : 0 < Nat.gcd y (rl φ n i) := Nat.gcd_pos_of_pos_left _ (by omega)
        have hgl : Nat.gcd y (rl φ n i) ≤ y := Nat.gcd_le_left _ (by omega)
        refine zcall_i (wc := [cW h wa ((n : Nat) : Int), cR cI wa 12 f]) (wr := []) (rest := []) hE hP hD hS hA [0, 1] [] [0, 1] rfl rfl (by decide) (by decide) (by decide) (fun (u : Unit) => [cW h wa ((n : Nat) : Int), cR cI wa 12 f]) (fun u => rfl) (fun hPc hDc => zrunV (As := [.int (zI ((i : Nat) : Int))]) (rest := []) (q0 := 0) (ci := 2) K k_X2_ringLength qm_X2_25 ⟨⟨rfl, rfl⟩, ⟨Nat.le_of_ble_eq_true rfl, Nat.le_of_ble_eq_true rfl⟩⟩ rfl rfl hPc hDc (c_X2_ringLength l D cI h wa n f φ i (by first | assumption | omega) (by first | assumption | omega) (by first | assumption | omega) (by first | assumption | omega) _) rfl hl.1 rfl (Nat.le_of_ble_eq_true rfl) dX2_order_14 ⟨Nat.zero_le _, Nat.zero_le _⟩) (by decide) (fun z u H locs hpost hP hD hS => ?_)
        subst hpost
        have hP : va_P D cls [cW h wa ((n : Nat) : Int), cR cI wa 12 f] H := hP
        have hD : va_D (va_A [cW h wa ((n : Nat) : Int), cR cI wa 12 f] sz) [cW h wa ((n : Nat) : Int), cR cI wa 12 f] := hD
        refine W.eq (g2 := F0 m 17 ls [.int (zI (((rl φ n i) : Nat) : Int))]) rfl ?_
        refine lv_istore_n (lv' := [(3, .int (zI (((rl φ n i) : Nat) : Int))), (0, .ref h), (1, .int (zI ((y : Nat) : Int))), (2, .int (zI ((i : Nat) : Int)))]) hx hb dX2_order_17 rfl hl (by decide) rfl (fun ls hl => ?_)
        refine lv_iload_n hx hb dX2_order_18 rfl (lv_at hl 2 rfl) ?_
        refine lv_iconst (v := zI 1) hx hb dX2_order_19 rfl ?_
        refine lv_iload_n hx hb dX2_order_20 rfl (lv_at hl 2 rfl) ?_
        refine lv_iload_n hx hb dX2_order_21 rfl (lv_at hl 0 rfl) ?_
        refine zcall_i (wc := []) (wr := [cW h wa ((n : Nat) : Int), cR cI wa 12 f]) (rest := [.int (zI 1), .int (zI ((y : Nat) : Int))]) hE hP hD hS hA [] [0, 1] [0, 1] rfl rfl (by decide) (by decide) (by decide) (fun (u : Unit) => [cW h wa ((n : Nat) : Int), cR cI wa 12 f]) (fun u => rfl) (fun hPc hDc => zrunSN (As := [.int (zI ((y : Nat) : Int)), .int (zI (((rl φ n i) : Nat) : Int))]) (rest := [.int (zI 1), .int (zI ((y : Nat) : Int))]) K k_X3_greatestDivisor nk_X2_34 ⟨⟨rfl, rfl⟩, ⟨Nat.le_of_ble_eq_true rfl, Nat.le_of_ble_eq_true rfl⟩⟩ hPc hDc (c_X3_greatestDivisor l D cI y (rl φ n i) (by first | assumption | omega) (by first | assumption | omega) _) rfl hl.1 rfl (Nat.le_of_ble_eq_true rfl) dX2_order_22 ⟨Nat.zero_le _, Nat.zero_le _⟩) (by decide) (fun z u H locs hpost hP hD hS => ?_)
        subst hpost
        have hP : va_P D cls [cW h wa ((n : Nat) : Int), cR cI wa 12 f] H := hP
        have hD : va_D (va_A [cW h wa ((n : Nat) : Int), cR cI wa 12 f] sz) [cW h wa ((n : Nat) : Int), cR cI wa 12 f] := hD
        refine W.eq (g2 := F0 m 25 ls [.int (zI (((Nat.gcd y (rl φ n i)) : Nat) : Int)), .int (zI 1), .int (zI ((y : Nat) : Int))]) rfl ?_
        refine z_Mmax hx hb (by rw [hml]; exact hl.1.symm) hown (hts _ qm_X2_29) (hts _ qs_Mmax) (hts _ qn_Math) (hts _ qc_Mmax) (by decide) (Nat.le_of_ble_eq_true rfl) (by decide) (by decide) (by omega) ((max 1 (Nat.gcd y (rl φ n i)) : Nat) : Int) (by split <;> omega) dX2_order_25 ?_
        refine z_idiv hx hb (((y / (max 1 (Nat.gcd y (rl φ n i)))) : Nat) : Int) (by omega) rfl dX2_order_28 ?_
        refine lv_iload_n hx hb dX2_order_29 rfl (lv_at hl 0 rfl) ?_
        refine z_imul hx hb ((Nat.lcm y (rl φ n i) : Nat) : Int) (by rw [← (od_step (a := y) (b := rl φ n i)).resolve_right (by omega)]; exact (Int.natCast_mul _ _).symm) dX2_order_30 ?_
        have hy2 : Nat.lcm y (rl φ n i) = odN φ n (i + 1) := by rw [hy]; rfl
        refine lv_istore_n (lv' := [(1, .int (zI ((Nat.lcm y (rl φ n i) : Nat) : Int))), (3, .int (zI (((rl φ n i) : Nat) : Int))), (0, .ref h), (2, .int (zI ((i : Nat) : Int)))]) hx hb dX2_order_31 rfl hl (by decide) rfl (fun ls hl => ?_)
        refine z_iinc (k := 3) (lv' := [(2, .int (zI (((i + 1) : Nat) : Int))), (1, .int (zI ((Nat.lcm y (rl φ n i) : Nat) : Int))), (3, .int (zI (((rl φ n i) : Nat) : Int))), (0, .ref h)]) hx hb (((i + 1) : Nat) : Int) (by omega) dX2_order_32 hl rfl (by decide) rfl (fun ls hl => ?_)
        refine lv_goto (tgt := 4) hx hb dX2_order_35 (by decide) ?_
        exact ih_4 (i + 1) (Nat.lcm y (rl φ n i)) (by omega) (by omega) (by exact hy2) _ _ _ hP hD hS (lv_sub hl [3, 1, 0] rfl)
  exact cut_4 (n - 0 + 1) 0 1 (Nat.lt_succ_self _) (by omega) (by rfl) _ _ _ hP hD hS (lv_sub hl [2, 1, 0] rfl)
set_option maxHeartbeats 4000000 in
set_option maxRecDepth 100000 in
theorem c_X2_isLeastOfRing (l : Launch) (D : va_G) (cI : ClassId) (h wa : Nat) (n : Nat) (f : Nat → Int) (φ : Nat → Nat) (p0 : Nat) (hn : n ≤ 12) (hf : ∀ j, j < n → f j = ((φ j : Nat) : Int)) (hφ : ∀ j, j < n → φ j < n) (hinj : inj φ n) (hp0 : p0 < n) : zMi l yX2_isLeastOfRing cX2_isLeastOfRing 4 (some .boolean) ({ frames := 0, cells := 0, slots := 0, locals := 0 }) D cI [.ref h, .int (zI ((p0 : Nat) : Int))] [cW h wa ((n : Nat) : Int), cR cI wa 12 f] (fun (z : Int) (u : Unit) => z = (b01 (lrB φ n p0 = true))) (fun (u : Unit) => [cW h wa ((n : Nat) : Int), cR cI wa 12 f]) := by
  intro sz
  refine zstart rfl (by decide) (Nat.le_of_ble_eq_true rfl) ?_
  intro p e s m below meth c ls K hnm hsz hP hD hS hl
  generalize hargs : ([.ref h, .int (zI ((p0 : Nat) : Int))] : List Value).toArray = args at K ⊢
  generalize hQf : MQ below _ args s _ _ _ = Qf
  have K : zK p s m args meth c cX2_isLeastOfRing 4 RX2 (some .boolean) D cI := K
  obtain ⟨hx, hb, hml, hown, hts, hE, -, -⟩ := id K
  have hA := zhA (ws0 := [cW h wa ((n : Nat) : Int), cR cI wa 12 f]) hsz
  have hl : lv_has ls 4 [(0, .ref h), (1, .int (zI ((p0 : Nat) : Int)))] := hl
  refine lv_aload_n hx hb dX2_isLeastOfRing_0 rfl (lv_at hl 0 rfl) ?_
  refine va_get (D := D) (ci := 2) (v := .ref wa) (C := RX2) (T := TX2) (N := 2) hx hb hts inT_X2 hown hE.1 hP 0 rfl rfl 1 (by decide) (hts _ qf_X2_9) (fun _ h9 => h9) rfl dX2_isLeastOfRing_1 ?_
  refine lv_iload_n hx hb dX2_isLeastOfRing_4 rfl (lv_at hl 1 rfl) ?_
  have hφ_p0 := hφ (p0) (by omega)
  refine z_iald hx hb hE hP 1 rfl p0 (by omega) (by omega) (by first | decide | omega) ((φ p0 : Nat) : Int) (hf (p0) (by omega)) dX2_isLeastOfRing_5 ?_
  refine lv_istore_n (lv' := [(2, .int (zI ((φ p0 : Nat) : Int))), (0, .ref h), (1, .int (zI ((p0 : Nat) : Int)))]) hx hb dX2_isLeastOfRing_6 rfl hl (by decide) rfl (fun ls hl => ?_)
  refine lv_iconst (v := zI 0) hx hb dX2_isLeastOfRing_7 rfl ?_
  refine lv_istore_n (lv' := [(3, .int (zI 0)), (2, .int (zI ((φ p0 : Nat) : Int))), (0, .ref h), (1, .int (zI ((p0 : Nat) : Int)))]) hx hb dX2_isLeastOfRing_8 rfl hl (by decide) rfl (fun ls hl => ?_)
  have cut_9 : ∀ (N_9 : Nat), ∀ (i r : Nat), n - i < N_9 → (i ≤ n) → (r = it φ (i + 1) p0) → (r < n) → (∀ j, j < i → p0 < it φ (j + 1) p0) → ∀ (H : Heap) (locs : List Loc) (ls : Array Slot), va_P D cls [cW h wa ((n : Nat) : Int), cR cI wa 12 f] H → va_D (va_A [cW h wa ((n : Nat) : Int), cR cI wa 12 f] sz) [cW h wa ((n : Nat) : Int), cR cI wa 12 f] → va_S (va_A [cW h wa ((n : Nat) : Int), cR cI wa 12 f] sz) s.heap H locs → lv_has ls 4 [(0, .ref h), (1, .int (zI ((p0 : Nat) : Int))), (2, .int (zI ((r : Nat) : Int))), (3, .int (zI ((i : Nat) : Int)))] → W p l e ({ frames := 0, cells := 0, slots := 0, locals := 0 }) s m args below meth c H locs 0 0 Qf (F0 m 9 ls []) := by
    intro N_9
    induction N_9 with
    | zero => intro i r hm_9; exact absurd hm_9 (Nat.not_lt_zero _)
    | succ N_9 ih_9 =>
      intro i r hm_9 hi hr1 hr2 hno H locs ls hP hD hS hl
      refine lv_iload_n hx hb dX2_isLeastOfRing_9 rfl (lv_at hl 3 rfl) ?_
      refine lv_aload_n hx hb dX2_isLeastOfRing_10 rfl (lv_at hl 0 rfl) ?_
      refine va_get (D := D) (ci := 2) (v := .int (zI ((n : Nat) : Int))) (C := RX2) (T := TX2) (N := 2) hx hb hts inT_X2 hown hE.1 hP 0 rfl rfl 0 (by decide) (hts _ qf_X2_15) (fun _ h9 => h9) rfl dX2_isLeastOfRing_11 ?_
      refine z_icmp_ge (tgt := 35) hx hb (by omega) dX2_isLeastOfRing_14 (by decide) (fun c_14 => ?_) (fun c_14 => ?_)
      · exfalso
        obtain ⟨mm, h8, h9⟩ := ring_ex hφ hinj hp0
        have h7 := hno mm (by omega)
        omega
      · refine lv_iload_n hx hb dX2_isLeastOfRing_17 rfl (lv_at hl 2 rfl) ?_
        refine lv_iload_n hx hb dX2_isLeastOfRing_18 rfl (lv_at hl 1 rfl) ?_
        refine z_icmp_le (tgt := 35) hx hb (by omega) dX2_isLeastOfRing_19 (by decide) (fun c_19 => ?_) (fun c_19 => ?_)
        · refine lv_iload_n hx hb dX2_isLeastOfRing_35 rfl (lv_at hl 2 rfl) ?_
          refine lv_iload_n hx hb dX2_isLeastOfRing_36 rfl (lv_at hl 1 rfl) ?_
          refine z_icmp_ne (tgt := 44) hx hb (by omega) dX2_isLeastOfRing_37 (by decide) (fun c_37 => ?_) (fun c_37 => ?_)
          · refine lv_iconst (v := zI 0) hx hb dX2_isLeastOfRing_44 rfl ?_
            rw [← hQf]
            exact z_bret K hS () (by first | exact (b01_t (lrB_t (i := i) (fun mm h9 => Nat.le_of_lt (hno mm h9)) (by omega))).symm | exact (b01_f (by rw [lrB_f (i := i) (by omega) (by omega)]; decide)).symm) (by omega) hP hD dX2_isLeastOfRing_45
          · refine lv_iconst (v := zI 1) hx hb dX2_isLeastOfRing_40 rfl ?_
            refine lv_goto (tgt := 45) hx hb dX2_isLeastOfRing_41 (by decide) ?_
            rw [← hQf]
            exact z_bret K hS () (by first | exact (b01_t (lrB_t (i := i) (fun mm h9 => Nat.le_of_lt (hno mm h9)) (by omega))).symm | exact (b01_f (by rw [lrB_f (i := i) (by omega) (by omega)]; decide)).symm) (by omega) hP hD dX2_isLeastOfRing_45
        · refine lv_aload_n hx hb dX2_isLeastOfRing_22 rfl (lv_at hl 0 rfl) ?_
          refine va_get (D := D) (ci := 2) (v := .ref wa) (C := RX2) (T := TX2) (N := 2) hx hb hts inT_X2 hown hE.1 hP 0 rfl rfl 1 (by decide) (hts _ qf_X2_9) (fun _ h9 => h9) rfl dX2_isLeastOfRing_23 ?_
          refine lv_iload_n hx hb dX2_isLeastOfRing_26 rfl (lv_at hl 2 rfl) ?_
          have hφ_r := hφ (r) (by omega)
          refine z_iald hx hb hE hP 1 rfl r (by omega) (by omega) (by first | decide | omega) ((φ r : Nat) : Int) (hf (r) (by omega)) dX2_isLeastOfRing_27 ?_
          refine lv_istore_n (lv' := [(2, .int (zI ((φ r : Nat) : Int))), (0, .ref h), (1, .int (zI ((p0 : Nat) : Int))), (3, .int (zI ((i : Nat) : Int)))]) hx hb dX2_isLeastOfRing_28 rfl hl (by decide) rfl (fun ls hl => ?_)
          refine z_iinc (k := 3) (lv' := [(3, .int (zI (((i + 1) : Nat) : Int))), (2, .int (zI ((φ r : Nat) : Int))), (0, .ref h), (1, .int (zI ((p0 : Nat) : Int)))]) hx hb (((i + 1) : Nat) : Int) (by omega) dX2_isLeastOfRing_29 hl rfl (by decide) rfl (fun ls hl => ?_)
          refine lv_goto (tgt := 9) hx hb dX2_isLeastOfRing_32 (by decide) ?_
          exact ih_9 (i + 1) (φ r) (by omega) (by omega) (by rw [hr1]; rfl) (by omega) (by intro j hj; rcases Nat.lt_or_ge j i with h1 | h1; exact hno j h1; rw [show j = i by omega, ← hr1]; omega) _ _ _ hP hD hS (lv_sub hl [2, 3, 1, 0] rfl)
  exact cut_9 (n - 0 + 1) 0 (φ p0) (Nat.lt_succ_self _) (by omega) (by rfl) (by omega) (by intro j hj; omega) _ _ _ hP hD hS (lv_sub hl [2, 3, 1, 0] rfl)
set_option maxHeartbeats 4000000 in
set_option maxRecDepth 100000 in
theorem c_X2_ringCount (l : Launch) (D : va_G) (cI : ClassId) (h wa : Nat) (n : Nat) (f : Nat → Int) (φ : Nat → Nat) (hn : n ≤ 12) (hf : ∀ j, j < n → f j = ((φ j : Nat) : Int)) (hφ : ∀ j, j < n → φ j < n) (hinj : inj φ n) : zMi l yX2_ringCount cX2_ringCount 3 (some .int) ({ frames := 1, cells := 0, slots := 0, locals := 23 }) D cI [.ref h] [cW h wa ((n : Nat) : Int), cR cI wa 12 f] (fun (z : Int) (u : Unit) => z = (((fb_ct (fun j => lrB φ n j) n) : Nat) : Int)) (fun (u : Unit) => [cW h wa ((n : Nat) : Int), cR cI wa 12 f]) := by
  intro sz
  refine zstart rfl (by decide) (Nat.le_of_ble_eq_true rfl) ?_
  intro p e s m below meth c ls K hnm hsz hP hD hS hl
  generalize hargs : ([.ref h] : List Value).toArray = args at K ⊢
  generalize hQf : MQ below _ args s _ _ _ = Qf
  have K : zK p s m args meth c cX2_ringCount 3 RX2 (some .int) D cI := K
  obtain ⟨hx, hb, hml, hown, hts, hE, -, -⟩ := id K
  have hA := zhA (ws0 := [cW h wa ((n : Nat) : Int), cR cI wa 12 f]) hsz
  have hl : lv_has ls 3 [(0, .ref h)] := hl
  refine lv_iconst (v := zI 0) hx hb dX2_ringCount_0 rfl ?_
  refine lv_istore_n (lv' := [(1, .int (zI 0)), (0, .ref h)]) hx hb dX2_ringCount_1 rfl hl (by decide) rfl (fun ls hl => ?_)
  refine lv_iconst (v := zI 0) hx hb dX2_ringCount_2 rfl ?_
  refine lv_istore_n (lv' := [(2, .int (zI 0)), (1, .int (zI 0)), (0, .ref h)]) hx hb dX2_ringCount_3 rfl hl (by decide) rfl (fun ls hl => ?_)
  have cut_4 : ∀ (N_4 : Nat), ∀ (i y : Nat), n - i < N_4 → (i ≤ n) → (y = fb_ct (fun j => lrB φ n j) i) → ∀ (H : Heap) (locs : List Loc) (ls : Array Slot), va_P D cls [cW h wa ((n : Nat) : Int), cR cI wa 12 f] H → va_D (va_A [cW h wa ((n : Nat) : Int), cR cI wa 12 f] sz) [cW h wa ((n : Nat) : Int), cR cI wa 12 f] → va_S (va_A [cW h wa ((n : Nat) : Int), cR cI wa 12 f] sz) s.heap H locs → lv_has ls 3 [(0, .ref h), (1, .int (zI ((y : Nat) : Int))), (2, .int (zI ((i : Nat) : Int)))] → W p l e ({ frames := 1, cells := 0, slots := 0, locals := 23 }) s m args below meth c H locs 0 0 Qf (F0 m 4 ls []) := by
    intro N_4
    induction N_4 with
    | zero => intro i y hm_4; exact absurd hm_4 (Nat.not_lt_zero _)
    | succ N_4 ih_4 =>
      intro i y hm_4 hi hy H locs ls hP hD hS hl
      refine lv_iload_n hx hb dX2_ringCount_4 rfl (lv_at hl 2 rfl) ?_
      refine lv_aload_n hx hb dX2_ringCount_5 rfl (lv_at hl 0 rfl) ?_
      refine va_get (D := D) (ci := 2) (v := .int (zI ((n : Nat) : Int))) (C := RX2) (T := TX2) (N := 2) hx hb hts inT_X2 hown hE.1 hP 0 rfl rfl 0 (by decide) (hts _ qf_X2_15) (fun _ h9 => h9) rfl dX2_ringCount_6 ?_
      refine z_icmp_ge (tgt := 29) hx hb (by omega) dX2_ringCount_9 (by decide) (fun c_9 => ?_) (fun c_9 => ?_)
      · refine lv_iload_n hx hb dX2_ringCount_29 rfl (lv_at hl 1 rfl) ?_
        rw [← hQf]
        exact z_iret K hS () (by rw [hy, show i = n by omega]) hP hD dX2_ringCount_30
      · refine lv_aload_n hx hb dX2_ringCount_12 rfl (lv_at hl 0 rfl) ?_
        refine lv_iload_n hx hb dX2_ringCount_13 rfl (lv_at hl 2 rfl) ?_
        refine zcall_i (wc := [cW h wa ((n : Nat) : Int), cR cI wa 12 f]) (wr := []) (rest := []) hE hP hD hS hA [0, 1] [] [0, 1] rfl rfl (by decide) (by decide) (by decide) (fun (u : Unit) => [cW h wa ((n : Nat) : Int), cR cI wa 12 f]) (fun u => rfl) (fun hPc hDc => zrunV (As := [.int (zI ((i : Nat) : Int))]) (rest := []) (q0 := 0) (ci := 2) K k_X2_isLeastOfRing qm_X2_37 ⟨⟨rfl, rfl⟩, ⟨Nat.le_of_ble_eq_true rfl, Nat.le_of_ble_eq_true rfl⟩⟩ rfl rfl hPc hDc (c_X2_isLeastOfRing l D cI h wa n f φ i (by first | assumption | omega) (by first | assumption | omega) (by first | assumption | omega) (by first | assumption | omega) (by first | assumption | omega) _) rfl hl.1 rfl (Nat.le_of_ble_eq_true rfl) dX2_ringCount_14 ⟨Nat.zero_le _, Nat.zero_le _⟩) (by decide) (fun z u H locs hpost hP hD hS => ?_)
        subst hpost
        have hP : va_P D cls [cW h wa ((n : Nat) : Int), cR cI wa 12 f] H := hP
        have hD : va_D (va_A [cW h wa ((n : Nat) : Int), cR cI wa 12 f] sz) [cW h wa ((n : Nat) : Int), cR cI wa 12 f] := hD
        refine W.eq (g2 := F0 m 17 ls [.int (zI (b01 (lrB φ n i = true)))]) rfl ?_
        refine z_if_eq (tgt := 23) hx hb (by have := b01_r (lrB φ n i = true); omega) dX2_ringCount_17 (by decide) (fun c_17 => ?_) (fun c_17 => ?_)
        · have hy2 : y = fb_ct (fun j => lrB φ n j) (i + 1) := by rw [ct_f (by simpa using b01_eq c_17)]; exact hy
          refine z_iinc (k := 2) (lv' := [(2, .int (zI (((i + 1) : Nat) : Int))), (0, .ref h), (1, .int (zI ((y : Nat) : Int)))]) hx hb (((i + 1) : Nat) : Int) (by omega) dX2_ringCount_23 hl rfl (by decide) rfl (fun ls hl => ?_)
          refine lv_goto (tgt := 4) hx hb dX2_ringCount_26 (by decide) ?_
          exact ih_4 (i + 1) y (by omega) (by omega) (by first | exact hy1 | exact hy2) _ _ _ hP hD hS (lv_sub hl [1, 2, 0] rfl)
        · have hy1 : y + 1 = fb_ct (fun j => lrB φ n j) (i + 1) := by rw [ct_t (by simpa using b01_ne c_17)]; omega
          refine z_iinc (k := 1) (lv' := [(1, .int (zI (((y + 1) : Nat) : Int))), (0, .ref h), (2, .int (zI ((i : Nat) : Int)))]) hx hb (((y + 1) : Nat) : Int) (by omega) dX2_ringCount_20 hl rfl (by decide) rfl (fun ls hl => ?_)
          refine z_iinc (k := 2) (lv' := [(2, .int (zI (((i + 1) : Nat) : Int))), (1, .int (zI (((y + 1) : Nat) : Int))), (0, .ref h)]) hx hb (((i + 1) : Nat) : Int) (by omega) dX2_ringCount_23 hl rfl (by decide) rfl (fun ls hl => ?_)
          refine lv_goto (tgt := 4) hx hb dX2_ringCount_26 (by decide) ?_
          exact ih_4 (i + 1) (y + 1) (by omega) (by omega) (by first | exact hy1 | exact hy2) _ _ _ hP hD hS (lv_sub hl [2, 1, 0] rfl)
  exact cut_4 (n - 0 + 1) 0 0 (Nat.lt_succ_self _) (by omega) (by rfl) _ _ _ hP hD hS (lv_sub hl [2, 1, 0] rfl)
set_option maxHeartbeats 4000000 in
set_option maxRecDepth 100000 in
theorem c_X2_longestRing (l : Launch) (D : va_G) (cI : ClassId) (h wa : Nat) (n : Nat) (f : Nat → Int) (φ : Nat → Nat) (hn : n ≤ 12) (hf : ∀ j, j < n → f j = ((φ j : Nat) : Int)) (hφ : ∀ j, j < n → φ j < n) : zMi l yX2_longestRing cX2_longestRing 3 (some .int) ({ frames := 1, cells := 0, slots := 0, locals := 23 }) D cI [.ref h] [cW h wa ((n : Nat) : Int), cR cI wa 12 f] (fun (z : Int) (u : Unit) => z = (((mx (rl φ n) n) : Nat) : Int)) (fun (u : Unit) => [cW h wa ((n : Nat) : Int), cR cI wa 12 f]) := by
  intro sz
  refine zstart rfl (by decide) (Nat.le_of_ble_eq_true rfl) ?_
  intro p e s m below meth c ls K hnm hsz hP hD hS hl
  generalize hargs : ([.ref h] : List Value).toArray = args at K ⊢
  generalize hQf : MQ below _ args s _ _ _ = Qf
  have K : zK p s m args meth c cX2_longestRing 3 RX2 (some .int) D cI := K
  obtain ⟨hx, hb, hml, hown, hts, hE, -, -⟩ := id K
  have hA := zhA (ws0 := [cW h wa ((n : Nat) : Int), cR cI wa 12 f]) hsz
  have hl : lv_has ls 3 [(0, .ref h)] := hl
  refine lv_iconst (v := zI 0) hx hb dX2_longestRing_0 rfl ?_
  refine lv_istore_n (lv' := [(1, .int (zI 0)), (0, .ref h)]) hx hb dX2_longestRing_1 rfl hl (by decide) rfl (fun ls hl => ?_)
  refine lv_iconst (v := zI 0) hx hb dX2_longestRing_2 rfl ?_
  refine lv_istore_n (lv' := [(2, .int (zI 0)), (1, .int (zI 0)), (0, .ref h)]) hx hb dX2_longestRing_3 rfl hl (by decide) rfl (fun ls hl => ?_)
  have cut_4 : ∀ (N_4 : Nat), ∀ (i y : Nat), n - i < N_4 → (i ≤ n) → (y = mx (rl φ n) i) → (y ≤ 12) → ∀ (H : Heap) (locs : List Loc) (ls : Array Slot), va_P D cls [cW h wa ((n : Nat) : Int), cR cI wa 12 f] H → va_D (va_A [cW h wa ((n : Nat) : Int), cR cI wa 12 f] sz) [cW h wa ((n : Nat) : Int), cR cI wa 12 f] → va_S (va_A [cW h wa ((n : Nat) : Int), cR cI wa 12 f] sz) s.heap H locs → lv_has ls 3 [(0, .ref h), (1, .int (zI ((y : Nat) : Int))), (2, .int (zI ((i : Nat) : Int)))] → W p l e ({ frames := 1, cells := 0, slots := 0, locals := 23 }) s m args below meth c H locs 0 0 Qf (F0 m 4 ls []) := by
    intro N_4
    induction N_4 with
    | zero => intro i y hm_4; exact absurd hm_4 (Nat.not_lt_zero _)
    | succ N_4 ih_4 =>
      intro i y hm_4 hi hy hy0 H locs ls hP hD hS hl
      refine lv_iload_n hx hb dX2_longestRing_4 rfl (lv_at hl 2 rfl) ?_
      refine lv_aload_n hx hb dX2_longestRing_5 rfl (lv_at hl 0 rfl) ?_
      refine va_get (D := D) (ci := 2) (v := .int (zI ((n : Nat) : Int))) (C := RX2) (T := TX2) (N := 2) hx hb hts inT_X2 hown hE.1 hP 0 rfl rfl 0 (by decide) (hts _ qf_X2_15) (fun _ h9 => h9) rfl dX2_longestRing_6 ?_
      refine z_icmp_ge (tgt := 28) hx hb (by omega) dX2_longestRing_9 (by decide) (fun c_9 => ?_) (fun c_9 => ?_)
      · refine lv_iload_n hx hb dX2_longestRing_28 rfl (lv_at hl 1 rfl) ?_
        rw [← hQf]
        exact z_iret K hS () (by rw [hy, show i = n by omega]) hP hD dX2_longestRing_29
      · refine lv_iload_n hx hb dX2_longestRing_12 rfl (lv_at hl 1 rfl) ?_
        refine lv_aload_n hx hb dX2_longestRing_13 rfl (lv_at hl 0 rfl) ?_
        refine lv_iload_n hx hb dX2_longestRing_14 rfl (lv_at hl 2 rfl) ?_
        have hr2 := rl_le (φ := φ) (n := n) (p := i) (by omega)
        refine zcall_i (wc := [cW h wa ((n : Nat) : Int), cR cI wa 12 f]) (wr := []) (rest := [.int (zI ((y : Nat) : Int))]) hE hP hD hS hA [0, 1] [] [0, 1] rfl rfl (by decide) (by decide) (by decide) (fun (u : Unit) => [cW h wa ((n : Nat) : Int), cR cI wa 12 f]) (fun u => rfl) (fun hPc hDc => zrunV (As := [.int (zI ((i : Nat) : Int))]) (rest := [.int (zI ((y : Nat) : Int))]) (q0 := 0) (ci := 2) K k_X2_ringLength qm_X2_25 ⟨⟨rfl, rfl⟩, ⟨Nat.le_of_ble_eq_true rfl, Nat.le_of_ble_eq_true rfl⟩⟩ rfl rfl hPc hDc (c_X2_ringLength l D cI h wa n f φ i (by first | assumption | omega) (by first | assumption | omega) (by first | assumption | omega) (by first | assumption | omega) _) rfl hl.1 rfl (Nat.le_of_ble_eq_true rfl) dX2_longestRing_15 ⟨Nat.zero_le _, Nat.zero_le _⟩) (by decide) (fun z u H locs hpost hP hD hS => ?_)
        subst hpost
        have hP : va_P D cls [cW h wa ((n : Nat) : Int), cR cI wa 12 f] H := hP
        have hD : va_D (va_A [cW h wa ((n : Nat) : Int), cR cI wa 12 f] sz) [cW h wa ((n : Nat) : Int), cR cI wa 12 f] := hD
        refine W.eq (g2 := F0 m 18 ls [.int (zI (((rl φ n i) : Nat) : Int)), .int (zI ((y : Nat) : Int))]) rfl ?_
        refine z_Mmax hx hb (by rw [hml]; exact hl.1.symm) hown (hts _ qm_X2_29) (hts _ qs_Mmax) (hts _ qn_Math) (hts _ qc_Mmax) (by decide) (Nat.le_of_ble_eq_true rfl) (by decide) (by decide) (by omega) ((max y (rl φ n i) : Nat) : Int) (by split <;> omega) dX2_longestRing_18 ?_
        refine lv_istore_n (lv' := [(1, .int (zI ((max y (rl φ n i) : Nat) : Int))), (0, .ref h), (2, .int (zI ((i : Nat) : Int)))]) hx hb dX2_longestRing_21 rfl hl (by decide) rfl (fun ls hl => ?_)
        refine z_iinc (k := 2) (lv' := [(2, .int (zI (((i + 1) : Nat) : Int))), (1, .int (zI ((max y (rl φ n i) : Nat) : Int))), (0, .ref h)]) hx hb (((i + 1) : Nat) : Int) (by omega) dX2_longestRing_22 hl rfl (by decide) rfl (fun ls hl => ?_)
        refine lv_goto (tgt := 4) hx hb dX2_longestRing_25 (by decide) ?_
        exact ih_4 (i + 1) (max y (rl φ n i)) (by omega) (by omega) (by rw [hy]; rfl) (by omega) _ _ _ hP hD hS (lv_sub hl [2, 1, 0] rfl)
  exact cut_4 (n - 0 + 1) 0 0 (Nat.lt_succ_self _) (by omega) (by rfl) (by omega) _ _ _ hP hD hS (lv_sub hl [2, 1, 0] rfl)
