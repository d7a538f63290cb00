theorem nx_t' {k i : Nat} {δ : Nat → Nat} (h0 : 0 < i) (h : δ (i - 1) + 1 < k) : nx k δ i = nup δ (i - 1) (δ (i - 1) + 1) := by
  obtain ⟨q, rfl⟩ : ∃ q, i = q + 1 := ⟨i - 1, by omega⟩
  exact nx_t h
theorem nx_f' {k i : Nat} {δ : Nat → Nat} (h0 : 0 < i) (h : k ≤ δ (i - 1) + 1) : nx k δ i = nx k (nup δ (i - 1) 0) (i - 1) := by
  obtain ⟨q, rfl⟩ : ∃ q, i = q + 1 := ⟨i - 1, by omega⟩
  exact nx_f h
set_option maxHeartbeats 4000000 in
set_option maxRecDepth 100000 in
theorem c_X3_wayOfStep (l : Launch) (D : va_G) (cI : ClassId) (x : Nat) (b : Nat → Nat) (ik rr hc : Int) (aN : Nat → Nat) (n k d v : Nat) (g2 : Nat → Int) (μ : Nat → Nat → Nat) (wa : Nat) (w0 : Int) (gw : Nat → Int) (j0 : Nat) (hn : n ≤ 12) (hk : k ≤ 6) (hg2 : ∀ q i, q < k → i < n → g2 (q * 12 + i) = ((μ q i : Nat) : Int)) (hμ : ∀ q i, q < k → i < n → μ q i < n) (hj0 : j0 < k) : zMr l yX3_wayOfStep cX3_wayOfStep 2 (some (.object "DeckHands$Way")) ({ frames := 2, cells := 0, slots := 0, locals := 45 }) D cI [.ref x, .int (zI ((j0 : Nat) : Int))] [cX x b ik rr hc, cT (b 1) aN ((n : Nat) : Int) ((k : Nat) : Int) ((d : Nat) : Int) ((v : Nat) : Int), cR cI (aN 2) 72 g2, cW (b 3) wa w0, cR cI wa 12 gw] (b 3) (fun (u : (Nat → Int)) => ∀ j, j < n → u j = ((μ j0 j : Nat) : Int)) (fun (u : (Nat → Int)) => [cX x b ik rr hc, cT (b 1) aN ((n : Nat) : Int) ((k : Nat) : Int) ((d : Nat) : Int) ((v : Nat) : Int), cR cI (aN 2) 72 g2, cW (b 3) wa ((n : Nat) : Int), cR cI wa 12 u]) := by
  intro sz
  refine zstart rfl (by decide) (Nat.le_of_ble_eq_true rfl) ?_
  intro p e s m below meth c ls K hnm hsz hP hD hS hl
  generalize hargs : ([.ref x, .int (zI ((j0 : Nat) : Int))] : List Value).toArray = args at K ⊢
  generalize hQf : MQ below _ args s _ _ _ = Qf
  have K : zK p s m args meth c cX3_wayOfStep 2 RX3 (some (.object "DeckHands$Way")) D cI := K
  obtain ⟨hx, hb, hml, hown, hts, hE, -, -⟩ := id K
  have hA := zhA (ws0 := [cX x b ik rr hc, cT (b 1) aN ((n : Nat) : Int) ((k : Nat) : Int) ((d : Nat) : Int) ((v : Nat) : Int), cR cI (aN 2) 72 g2, cW (b 3) wa w0, cR cI wa 12 gw]) hsz
  have hl : lv_has ls 2 [(0, .ref x), (1, .int (zI ((j0 : Nat) : Int)))] := hl
  refine lv_aload_n hx hb dX3_wayOfStep_0 rfl (lv_at hl 0 rfl) ?_
  refine va_get (D := D) (ci := 3) (v := .ref (b 3)) (C := RX3) (T := TX3) (N := 10) hx hb hts inT_X3 hown hE.1 hP 0 rfl rfl 6 (by decide) (hts _ qf_X3_29) (fun _ h9 => h9) rfl dX3_wayOfStep_1 ?_
  refine lv_aload_n hx hb dX3_wayOfStep_4 rfl (lv_at hl 0 rfl) ?_
  refine va_get (D := D) (ci := 3) (v := .ref (b 1)) (C := RX3) (T := TX3) (N := 10) hx hb hts inT_X3 hown hE.1 hP 0 rfl rfl 1 (by decide) (hts _ qf_X3_19) (fun _ h9 => h9) rfl dX3_wayOfStep_5 ?_
  refine va_getN (D := D) (ci := 1) (v := .int (zI ((n : Nat) : Int))) (C := RX1) (T := TX1) (N := 11) hx hb hts inT_X1 hown hE.1 hP 1 rfl rfl 0 (by decide) (va_Nw.use rfl (hE.2 _ nf_X3_201 rfl)) (fun _ h9 => h9) rfl dX3_wayOfStep_8 ?_
  refine zcall_v (wc := [cW (b 3) wa w0, cR cI wa 12 gw]) (wr := [cX x b ik rr hc, cT (b 1) aN ((n : Nat) : Int) ((k : Nat) : Int) ((d : Nat) : Int) ((v : Nat) : Int), cR cI (aN 2) 72 g2]) (rest := []) hE hP hD hS hA [3, 4] [0, 1, 2] [0, 1, 2, 3, 4] rfl rfl (by decide) (by decide) (by decide) (fun (u : Unit) => [cX x b ik rr hc, cT (b 1) aN ((n : Nat) : Int) ((k : Nat) : Int) ((d : Nat) : Int) ((v : Nat) : Int), cR cI (aN 2) 72 g2, cW (b 3) wa ((n : Nat) : Int), cR cI wa 12 (zcp (fun j => (j : Int)) gw n)]) (fun u => rfl) (fun hPc hDc => zrunVN (As := [.int (zI ((n : Nat) : Int))]) (rest := []) (q0 := 0) (ci := 2) K k_X2_begin nk_X3_254 ⟨⟨rfl, rfl⟩, ⟨Nat.le_of_ble_eq_true rfl, Nat.le_of_ble_eq_true rfl⟩⟩ rfl rfl hPc hDc (c_X2_begin l D cI (b 3) wa w0 n gw (by first | assumption | omega) _) rfl hl.1 rfl (Nat.le_of_ble_eq_true rfl) dX3_wayOfStep_11 ⟨Nat.zero_le _, Nat.zero_le _⟩) (by decide) (fun u H locs hpost hP hD hS => ?_)
  have hP : va_P D cls [cX x b ik rr hc, cT (b 1) aN ((n : Nat) : Int) ((k : Nat) : Int) ((d : Nat) : Int) ((v : Nat) : Int), cR cI (aN 2) 72 g2, cW (b 3) wa ((n : Nat) : Int), cR cI wa 12 (zcp (fun j => (j : Int)) gw n)] H := hP
  have hD : va_D (va_A [cX x b ik rr hc, cT (b 1) aN ((n : Nat) : Int) ((k : Nat) : Int) ((d : Nat) : Int) ((v : Nat) : Int), cR cI (aN 2) 72 g2, cW (b 3) wa w0, cR cI wa 12 gw] sz) [cX x b ik rr hc, cT (b 1) aN ((n : Nat) : Int) ((k : Nat) : Int) ((d : Nat) : Int) ((v : Nat) : Int), cR cI (aN 2) 72 g2, cW (b 3) wa ((n : Nat) : Int), cR cI wa 12 (zcp (fun j => (j : Int)) gw n)] := hD
  refine lv_aload_n hx hb dX3_wayOfStep_14 rfl (lv_at hl 0 rfl) ?_
  refine va_get (D := D) (ci := 3) (v := .ref (b 3)) (C := RX3) (T := TX3) (N := 10) hx hb hts inT_X3 hown hE.1 hP 0 rfl rfl 6 (by decide) (hts _ qf_X3_29) (fun _ h9 => h9) rfl dX3_wayOfStep_15 ?_
  refine lv_aload_n hx hb dX3_wayOfStep_18 rfl (lv_at hl 0 rfl) ?_
  refine va_get (D := D) (ci := 3) (v := .ref (b 1)) (C := RX3) (T := TX3) (N := 10) hx hb hts inT_X3 hown hE.1 hP 0 rfl rfl 1 (by decide) (hts _ qf_X3_19) (fun _ h9 => h9) rfl dX3_wayOfStep_19 ?_
  refine lv_iload_n hx hb dX3_wayOfStep_22 rfl (lv_at hl 1 rfl) ?_
  refine zcall_v (wc := [cW (b 3) wa ((n : Nat) : Int), cR cI wa 12 (zcp (fun j => (j : Int)) gw n), cT (b 1) aN ((n : Nat) : Int) ((k : Nat) : Int) ((d : Nat) : Int) ((v : Nat) : Int), cR cI (aN 2) 72 g2]) (wr := [cX x b ik rr hc]) (rest := []) hE hP hD hS hA [3, 4, 1, 2] [0] [0, 3, 4, 1, 2] rfl rfl (by decide) (by decide) (by decide) (fun (u : (Nat → Int)) => [cX x b ik rr hc, cT (b 1) aN ((n : Nat) : Int) ((k : Nat) : Int) ((d : Nat) : Int) ((v : Nat) : Int), cR cI (aN 2) 72 g2, cW (b 3) wa ((n : Nat) : Int), cR cI wa 12 u]) (fun u => rfl) (fun hPc hDc => zrunVN (As := [.ref (b 1), .int (zI ((j0 : Nat) : Int))]) (rest := []) (q0 := 0) (ci := 2) K k_X2_add nk_X3_257 ⟨⟨rfl, rfl⟩, ⟨Nat.le_of_ble_eq_true rfl, Nat.le_of_ble_eq_true rfl⟩⟩ rfl rfl hPc hDc (c_X2_add l D cI (b 3) wa n (zcp (fun j => (j : Int)) gw n) (fun j => j) (b 1) aN n k d v g2 j0 (μ j0) (by first | assumption | omega) (fun j hj => zcp_lt hj) (fun j hj => hj) (by first | assumption | omega) (fun j hj => hg2 j0 j hj0 hj) _) rfl hl.1 rfl (Nat.le_of_ble_eq_true rfl) dX3_wayOfStep_23 ⟨Nat.zero_le _, Nat.zero_le _⟩) (by decide) (fun u H locs hpost hP hD hS => ?_)
  obtain ⟨f_1, hu⟩ : ∃ z, z = u := ⟨_, rfl⟩
  subst hu
  have hf2_23 := hpost
  have hf2_23 : ∀ j, j < n → f_1 j = (((μ j0) ((fun j => j) j) : Nat) : Int) := hf2_23
  have hP : va_P D cls [cX x b ik rr hc, cT (b 1) aN ((n : Nat) : Int) ((k : Nat) : Int) ((d : Nat) : Int) ((v : Nat) : Int), cR cI (aN 2) 72 g2, cW (b 3) wa ((n : Nat) : Int), cR cI wa 12 f_1] H := hP
  have hD : va_D (va_A [cX x b ik rr hc, cT (b 1) aN ((n : Nat) : Int) ((k : Nat) : Int) ((d : Nat) : Int) ((v : Nat) : Int), cR cI (aN 2) 72 g2, cW (b 3) wa w0, cR cI wa 12 gw] sz) [cX x b ik rr hc, cT (b 1) aN ((n : Nat) : Int) ((k : Nat) : Int) ((d : Nat) : Int) ((v : Nat) : Int), cR cI (aN 2) 72 g2, cW (b 3) wa ((n : Nat) : Int), cR cI wa 12 f_1] := hD
  refine lv_aload_n hx hb dX3_wayOfStep_26 rfl (lv_at hl 0 rfl) ?_
  refine va_get (D := D) (ci := 3) (v := .ref (b 3)) (C := RX3) (T := TX3) (N := 10) hx hb hts inT_X3 hown hE.1 hP 0 rfl rfl 6 (by decide) (hts _ qf_X3_29) (fun _ h9 => h9) rfl dX3_wayOfStep_27 ?_
  rw [← hQf]
  exact z_aret K hS (f_1) (by exact hf2_23) hP hD dX3_wayOfStep_30
set_option maxHeartbeats 4000000 in
set_option maxRecDepth 100000 in
theorem c_X3_wayOfRoutine (l : Launch) (D : va_G) (cI : ClassId) (x : Nat) (b : Nat → Nat) (ik rr hc : Int) (aN : Nat → Nat) (n k d v : Nat) (g2 : Nat → Int) (μ : Nat → Nat → Nat) (wa : Nat) (w0 : Int) (gw : Nat → Int) (hn : n ≤ 12) (hk : k ≤ 6) (hg2 : ∀ q i, q < k → i < n → g2 (q * 12 + i) = ((μ q i : Nat) : Int)) (hμ : ∀ q i, q < k → i < n → μ q i < n) : zMr l yX3_wayOfRoutine cX3_wayOfRoutine 2 (some (.object "DeckHands$Way")) ({ frames := 2, cells := 0, slots := 0, locals := 45 }) D cI [.ref x] [cX x b ik rr hc, cT (b 1) aN ((n : Nat) : Int) ((k : Nat) : Int) ((d : Nat) : Int) ((v : Nat) : Int), cR cI (aN 2) 72 g2, cW (b 3) wa w0, cR cI wa 12 gw] (b 3) (fun (u : (Nat → Int)) => ∀ j, j < n → u j = ((rdc μ k j : Nat) : Int)) (fun (u : (Nat → Int)) => [cX x b ik rr hc, cT (b 1) aN ((n : Nat) : Int) ((k : Nat) : Int) ((d : Nat) : Int) ((v : Nat) : Int), cR cI (aN 2) 72 g2, cW (b 3) wa ((n : Nat) : Int), cR cI wa 12 u]) := by
  intro sz
  refine zstart rfl (by decide) (Nat.le_of_ble_eq_true rfl) ?_
  intro p e s m below meth c ls K hnm hsz hP hD hS hl
  generalize hargs : ([.ref x] : List Value).toArray = args at K ⊢
  generalize hQf : MQ below _ args s _ _ _ = Qf
  have K : zK p s m args meth c cX3_wayOfRoutine 2 RX3 (some (.object "DeckHands$Way")) D cI := K
  obtain ⟨hx, hb, hml, hown, hts, hE, -, -⟩ := id K
  have hA := zhA (ws0 := [cX x b ik rr hc, cT (b 1) aN ((n : Nat) : Int) ((k : Nat) : Int) ((d : Nat) : Int) ((v : Nat) : Int), cR cI (aN 2) 72 g2, cW (b 3) wa w0, cR cI wa 12 gw]) hsz
  have hl : lv_has ls 2 [(0, .ref x)] := hl
  refine lv_aload_n hx hb dX3_wayOfRoutine_0 rfl (lv_at hl 0 rfl) ?_
  refine va_get (D := D) (ci := 3) (v := .ref (b 3)) (C := RX3) (T := TX3) (N := 10) hx hb hts inT_X3 hown hE.1 hP 0 rfl rfl 6 (by decide) (hts _ qf_X3_29) (fun _ h9 => h9) rfl dX3_wayOfRoutine_1 ?_
  refine lv_aload_n hx hb dX3_wayOfRoutine_4 rfl (lv_at hl 0 rfl) ?_
  refine va_get (D := D) (ci := 3) (v := .ref (b 1)) (C := RX3) (T := TX3) (N := 10) hx hb hts inT_X3 hown hE.1 hP 0 rfl rfl 1 (by decide) (hts _ qf_X3_19) (fun _ h9 => h9) rfl dX3_wayOfRoutine_5 ?_
  refine va_getN (D := D) (ci := 1) (v := .int (zI ((n : Nat) : Int))) (C := RX1) (T := TX1) (N := 11) hx hb hts inT_X1 hown hE.1 hP 1 rfl rfl 0 (by decide) (va_Nw.use rfl (hE.2 _ nf_X3_201 rfl)) (fun _ h9 => h9) rfl dX3_wayOfRoutine_8 ?_
  refine zcall_v (wc := [cW (b 3) wa w0, cR cI wa 12 gw]) (wr := [cX x b ik rr hc, cT (b 1) aN ((n : Nat) : Int) ((k : Nat) : Int) ((d : Nat) : Int) ((v : Nat) : Int), cR cI (aN 2) 72 g2]) (rest := []) hE hP hD hS hA [3, 4] [0, 1, 2] [0, 1, 2, 3, 4] rfl rfl (by decide) (by decide) (by decide) (fun (u : Unit) => [cX x b ik rr hc, cT (b 1) aN ((n : Nat) : Int) ((k : Nat) : Int) ((d : Nat) : Int) ((v : Nat) : Int), cR cI (aN 2) 72 g2, cW (b 3) wa ((n : Nat) : Int), cR cI wa 12 (zcp (fun j => (j : Int)) gw n)]) (fun u => rfl) (fun hPc hDc => zrunVN (As := [.int (zI ((n : Nat) : Int))]) (rest := []) (q0 := 0) (ci := 2) K k_X2_begin nk_X3_254 ⟨⟨rfl, rfl⟩, ⟨Nat.le_of_ble_eq_true rfl, Nat.le_of_ble_eq_true rfl⟩⟩ rfl rfl hPc hDc (c_X2_begin l D cI (b 3) wa w0 n gw (by first | assumption | omega) _) rfl hl.1 rfl (Nat.le_of_ble_eq_true rfl) dX3_wayOfRoutine_11 ⟨Nat.zero_le _, Nat.zero_le _⟩) (by decide) (fun u H locs hpost hP hD hS => ?_)
  have hP : va_P D cls [cX x b ik rr hc, cT (b 1) aN ((n : Nat) : Int) ((k : Nat) : Int) ((d : Nat) : Int) ((v : Nat) : Int), cR cI (aN 2) 72 g2, cW (b 3) wa ((n : Nat) : Int), cR cI wa 12 (zcp (fun j => (j : Int)) gw n)] H := hP
  have hD : va_D (va_A [cX x b ik rr hc, cT (b 1) aN ((n : Nat) : Int) ((k : Nat) : Int) ((d : Nat) : Int) ((v : Nat) : Int), cR cI (aN 2) 72 g2, cW (b 3) wa w0, cR cI wa 12 gw] sz) [cX x b ik rr hc, cT (b 1) aN ((n : Nat) : Int) ((k : Nat) : Int) ((d : Nat) : Int) ((v : Nat) : Int), cR cI (aN 2) 72 g2, cW (b 3) wa ((n : Nat) : Int), cR cI wa 12 (zcp (fun j => (j : Int)) gw n)] := hD
  refine lv_iconst (v := zI 0) hx hb dX3_wayOfRoutine_14 rfl ?_
  refine lv_istore_n (lv' := [(1, .int (zI 0)), (0, .ref x)]) hx hb dX3_wayOfRoutine_15 rfl hl (by decide) rfl (fun ls hl => ?_)
  have cut_16 : ∀ (N_16 : Nat), ∀ (i : Nat) (q2 : Nat → Int), k - i < N_16 → (i ≤ k) → (∀ j, j < n → q2 j = ((rdc μ i j : Nat) : Int)) → ∀ (H : Heap) (locs : List Loc) (ls : Array Slot), va_P D cls [cX x b ik rr hc, cT (b 1) aN ((n : Nat) : Int) ((k : Nat) : Int) ((d : Nat) : Int) ((v : Nat) : Int), cR cI (aN 2) 72 g2, cW (b 3) wa ((n : Nat) : Int), cR cI wa 12 q2] H → va_D (va_A [cX x b ik rr hc, cT (b 1) aN ((n : Nat) : Int) ((k : Nat) : Int) ((d : Nat) : Int) ((v : Nat) : Int), cR cI (aN 2) 72 g2, cW (b 3) wa w0, cR cI wa 12 gw] sz) [cX x b ik rr hc, cT (b 1) aN ((n : Nat) : Int) ((k : Nat) : Int) ((d : Nat) : Int) ((v : Nat) : Int), cR cI (aN 2) 72 g2, cW (b 3) wa ((n : Nat) : Int), cR cI wa 12 q2] → va_S (va_A [cX x b ik rr hc, cT (b 1) aN ((n : Nat) : Int) ((k : Nat) : Int) ((d : Nat) : Int) ((v : Nat) : Int), cR cI (aN 2) 72 g2, cW (b 3) wa w0, cR cI wa 12 gw] sz) s.heap H locs → lv_has ls 2 [(0, .ref x), (1, .int (zI ((i : Nat) : Int)))] → W p l e ({ frames := 2, cells := 0, slots := 0, locals := 45 }) s m args below meth c H locs 0 0 Qf (F0 m 16 ls []) := by
    intro N_16
    induction N_16 with
    | zero => intro i q2 hm_16; exact absurd hm_16 (Nat.not_lt_zero _)
    | succ N_16 ih_16 =>
      intro i q2 hm_16 hi hq H locs ls hP hD hS hl
      refine lv_iload_n hx hb dX3_wayOfRoutine_16 rfl (lv_at hl 1 rfl) ?_
      refine lv_aload_n hx hb dX3_wayOfRoutine_17 rfl (lv_at hl 0 rfl) ?_
      refine va_get (D := D) (ci := 3) (v := .ref (b 1)) (C := RX3) (T := TX3) (N := 10) hx hb hts inT_X3 hown hE.1 hP 0 rfl rfl 1 (by decide) (hts _ qf_X3_19) (fun _ h9 => h9) rfl dX3_wayOfRoutine_18 ?_
      refine va_getN (D := D) (ci := 1) (v := .int (zI ((k : Nat) : Int))) (C := RX1) (T := TX1) (N := 11) hx hb hts inT_X1 hown hE.1 hP 1 rfl rfl 1 (by decide) (va_Nw.use rfl (hE.2 _ nf_X3_73 rfl)) (fun _ h9 => h9) rfl dX3_wayOfRoutine_21 ?_
      refine z_icmp_ge (tgt := 45) hx hb (by omega) dX3_wayOfRoutine_24 (by decide) (fun c_24 => ?_) (fun c_24 => ?_)
      · refine lv_aload_n hx hb dX3_wayOfRoutine_45 rfl (lv_at hl 0 rfl) ?_
        refine va_get (D := D) (ci := 3) (v := .ref (b 3)) (C := RX3) (T := TX3) (N := 10) hx hb hts inT_X3 hown hE.1 hP 0 rfl rfl 6 (by decide) (hts _ qf_X3_29) (fun _ h9 => h9) rfl dX3_wayOfRoutine_46 ?_
        rw [← hQf]
        exact z_aret K hS (q2) (by rw [← show i = k by omega]; exact hq) hP hD dX3_wayOfRoutine_49
      · refine lv_aload_n hx hb dX3_wayOfRoutine_27 rfl (lv_at hl 0 rfl) ?_
        refine va_get (D := D) (ci := 3) (v := .ref (b 3)) (C := RX3) (T := TX3) (N := 10) hx hb hts inT_X3 hown hE.1 hP 0 rfl rfl 6 (by decide) (hts _ qf_X3_29) (fun _ h9 => h9) rfl dX3_wayOfRoutine_28 ?_
        refine lv_aload_n hx hb dX3_wayOfRoutine_31 rfl (lv_at hl 0 rfl) ?_
        refine va_get (D := D) (ci := 3) (v := .ref (b 1)) (C := RX3) (T := TX3) (N := 10) hx hb hts inT_X3 hown hE.1 hP 0 rfl rfl 1 (by decide) (hts _ qf_X3_19) (fun _ h9 => h9) rfl dX3_wayOfRoutine_32 ?_
        refine lv_iload_n hx hb dX3_wayOfRoutine_35 rfl (lv_at hl 1 rfl) ?_
        refine zcall_v (wc := [cW (b 3) wa ((n : Nat) : Int), cR cI wa 12 q2, cT (b 1) aN ((n : Nat) : Int) ((k : Nat) : Int) ((d : Nat) : Int) ((v : Nat) : Int), cR cI (aN 2) 72 g2]) (wr := [cX x b ik rr hc]) (rest := []) hE hP hD hS hA [3, 4, 1, 2] [0] [0, 3, 4, 1, 2] rfl rfl (by decide) (by decide) (by decide) (fun (u : (Nat → Int)) => [cX x b ik rr hc, cT (b 1) aN ((n : Nat) : Int) ((k : Nat) : Int) ((d : Nat) : Int) ((v : Nat) : Int), cR cI (aN 2) 72 g2, cW (b 3) wa ((n : Nat) : Int), cR cI wa 12 u]) (fun u => rfl) (fun hPc hDc => zrunVN (As := [.ref (b 1), .int (zI ((i : Nat) : Int))]) (rest := []) (q0 := 0) (ci := 2) K k_X2_add nk_X3_257 ⟨⟨rfl, rfl⟩, ⟨Nat.le_of_ble_eq_true rfl, Nat.le_of_ble_eq_true rfl⟩⟩ rfl rfl hPc hDc (c_X2_add l D cI (b 3) wa n q2 (rdc μ i) (b 1) aN n k d v g2 i (μ i) (by first | assumption | omega) hq (fun j hj => rdc_lt hμ hi hj) (by first | assumption | omega) (fun j hj => hg2 i j (by omega) hj) _) rfl hl.1 rfl (Nat.le_of_ble_eq_true rfl) dX3_wayOfRoutine_36 ⟨Nat.zero_le _, Nat.zero_le _⟩) (by decide) (fun u H locs hpost hP hD hS => ?_)
        obtain ⟨f_1, hu⟩ : ∃ z, z = u := ⟨_, rfl⟩
        subst hu
        have hf2_36 := hpost
        have hf2_36 : ∀ j, j < n → f_1 j = (((μ i) ((rdc μ i) j) : Nat) : Int) := hf2_36
        have hP : va_P D cls [cX x b ik rr hc, cT (b 1) aN ((n : Nat) : Int) ((k : Nat) : Int) ((d : Nat) : Int) ((v : Nat) : Int), cR cI (aN 2) 72 g2, cW (b 3) wa ((n : Nat) : Int), cR cI wa 12 f_1] H := hP
        have hD : va_D (va_A [cX x b ik rr hc, cT (b 1) aN ((n : Nat) : Int) ((k : Nat) : Int) ((d : Nat) : Int) ((v : Nat) : Int), cR cI (aN 2) 72 g2, cW (b 3) wa w0, cR cI wa 12 gw] sz) [cX x b ik rr hc, cT (b 1) aN ((n : Nat) : Int) ((k : Nat) : Int) ((d : Nat) : Int) ((v : Nat) : Int), cR cI (aN 2) 72 g2, cW (b 3) wa ((n : Nat) : Int), cR cI wa 12 f_1] := hD
        refine z_iinc (k := 1) (lv' := [(1, .int (zI (((i + 1) : Nat) : Int))), (0, .ref x)]) hx hb (((i + 1) : Nat) : Int) (by omega) dX3_wayOfRoutine_39 hl rfl (by decide) rfl (fun ls hl => ?_)
        refine lv_goto (tgt := 16) hx hb dX3_wayOfRoutine_42 (by decide) ?_
        exact ih_16 (i + 1) f_1 (by omega) (by omega) (by exact hf2_36) _ _ _ hP hD hS (lv_sub hl [1, 0] rfl)
  exact cut_16 (k - 0 + 1) 0 (zcp (fun j => (j : Int)) gw n) (Nat.lt_succ_self _) (by omega) (by exact fun j hj => zcp_lt hj) _ _ _ hP hD hS (lv_sub hl [1, 0] rfl)
set_option maxHeartbeats 4000000 in
set_option maxRecDepth 100000 in
theorem c_X3_carryOut (l : Launch) (D : va_G) (cI : ClassId) (x : Nat) (b : Nat → Nat) (ik rr hc : Int) (aN : Nat → Nat) (n k d v : Nat) (wa : Nat) (w0 : Int) (f : Nat → Int) (φ : Nat → Nat) (g3 gs : Nat → Int) (π : Nat → Nat) (c0 : Nat) (hn : n ≤ 12) (hf : ∀ j, j < n → f j = ((φ j : Nat) : Int)) (hφ : ∀ j, j < n → φ j < n) (hinj : inj φ n) (hg3 : ∀ j, j < n → g3 j = ((π j : Nat) : Int)) (hπ : ∀ j, j < n → π j < n) : zMi l yX3_carryOut cX3_carryOut 4 (some .int) ({ frames := 1, cells := 0, slots := 0, locals := 48 }) D cI [.ref x, .ref (b 3), .int (zI ((c0 : Nat) : Int))] [cX x b ik rr hc, cT (b 1) aN ((n : Nat) : Int) ((k : Nat) : Int) ((d : Nat) : Int) ((v : Nat) : Int), cW (b 3) wa w0, cR cI wa 12 f, cR cI (aN 3) 12 g3, cR cI (b 5) 12 gs] (fun (z : Int) (u : (Nat → Int) × (Nat → Int)) => (z = (u.1 0)) ∧ (∀ j, j < n → u.1 (φ j) = ((π j : Nat) : Int))) (fun (u : (Nat → Int) × (Nat → Int)) => [cX x b ik rr hc, cT (b 1) aN ((n : Nat) : Int) ((k : Nat) : Int) (((d + c0) : Nat) : Int) ((v : Nat) : Int), cW (b 3) wa w0, cR cI wa 12 f, cR cI (aN 3) 12 u.1, cR cI (b 5) 12 u.2]) := by
  intro sz
  refine zstart rfl (by decide) (Nat.le_of_ble_eq_true rfl) ?_
  intro p e s m below meth c ls K hnm hsz hP hD hS hl
  generalize hargs : ([.ref x, .ref (b 3), .int (zI ((c0 : Nat) : Int))] : List Value).toArray = args at K ⊢
  generalize hQf : MQ below _ args s _ _ _ = Qf
  have K : zK p s m args meth c cX3_carryOut 4 RX3 (some .int) D cI := K
  obtain ⟨hx, hb, hml, hown, hts, hE, -, -⟩ := id K
  have hA := zhA (ws0 := [cX x b ik rr hc, cT (b 1) aN ((n : Nat) : Int) ((k : Nat) : Int) ((d : Nat) : Int) ((v : Nat) : Int), cW (b 3) wa w0, cR cI wa 12 f, cR cI (aN 3) 12 g3, cR cI (b 5) 12 gs]) hsz
  have hl : lv_has ls 4 [(0, .ref x), (1, .ref (b 3)), (2, .int (zI ((c0 : Nat) : Int)))] := hl
  refine lv_iconst (v := zI 0) hx hb dX3_carryOut_0 rfl ?_
  refine lv_istore_n (lv' := [(3, .int (zI 0)), (0, .ref x), (1, .ref (b 3)), (2, .int (zI ((c0 : Nat) : Int)))]) hx hb dX3_carryOut_1 rfl hl (by decide) rfl (fun ls hl => ?_)
  have cut_2 : ∀ (N_2 : Nat), ∀ (i : Nat) (q : Nat → Int), n - i < N_2 → (i ≤ n) → (∀ j, j < i → q (φ j) = ((π j : Nat) : Int)) → ∀ (H : Heap) (locs : List Loc) (ls : Array Slot), va_P D cls [cX x b ik rr hc, cT (b 1) aN ((n : Nat) : Int) ((k : Nat) : Int) ((d : Nat) : Int) ((v : Nat) : Int), cW (b 3) wa w0, cR cI wa 12 f, cR cI (aN 3) 12 g3, cR cI (b 5) 12 q] H → va_D (va_A [cX x b ik rr hc, cT (b 1) aN ((n : Nat) : Int) ((k : Nat) : Int) ((d : Nat) : Int) ((v : Nat) : Int), cW (b 3) wa w0, cR cI wa 12 f, cR cI (aN 3) 12 g3, cR cI (b 5) 12 gs] sz) [cX x b ik rr hc, cT (b 1) aN ((n : Nat) : Int) ((k : Nat) : Int) ((d : Nat) : Int) ((v : Nat) : Int), cW (b 3) wa w0, cR cI wa 12 f, cR cI (aN 3) 12 g3, cR cI (b 5) 12 q] → va_S (va_A [cX x b ik rr hc, cT (b 1) aN ((n : Nat) : Int) ((k : Nat) : Int) ((d : Nat) : Int) ((v : Nat) : Int), cW (b 3) wa w0, cR cI wa 12 f, cR cI (aN 3) 12 g3, cR cI (b 5) 12 gs] sz) s.heap H locs → lv_has ls 4 [(0, .ref x), (1, .ref (b 3)), (2, .int (zI ((c0 : Nat) : Int))), (3, .int (zI ((i : Nat) : Int)))] → W p l e ({ frames := 1, cells := 0, slots := 0, locals := 48 }) s m args below meth c H locs 0 0 Qf (F0 m 2 ls []) := by
    intro N_2
    induction N_2 with
    | zero => intro i q hm_2; exact absurd hm_2 (Nat.not_lt_zero _)
    | succ N_2 ih_2 =>
      intro i q hm_2 hi hq H locs ls hP hD hS hl
      refine lv_iload_n hx hb dX3_carryOut_2 rfl (lv_at hl 3 rfl) ?_
      refine lv_aload_n hx hb dX3_carryOut_3 rfl (lv_at hl 0 rfl) ?_
      refine va_get (D := D) (ci := 3) (v := .ref (b 1)) (C := RX3) (T := TX3) (N := 10) hx hb hts inT_X3 hown hE.1 hP 0 rfl rfl 1 (by decide) (hts _ qf_X3_19) (fun _ h9 => h9) rfl dX3_carryOut_4 ?_
      refine va_getN (D := D) (ci := 1) (v := .int (zI ((n : Nat) : Int))) (C := RX1) (T := TX1) (N := 11) hx hb hts inT_X1 hown hE.1 hP 1 rfl rfl 0 (by decide) (va_Nw.use rfl (hE.2 _ nf_X3_201 rfl)) (fun _ h9 => h9) rfl dX3_carryOut_7 ?_
      refine z_icmp_ge (tgt := 39) hx hb (by omega) dX3_carryOut_10 (by decide) (fun c_10 => ?_) (fun c_10 => ?_)
      · refine lv_aload_n hx hb dX3_carryOut_39 rfl (lv_at hl 0 rfl) ?_
        refine va_get (D := D) (ci := 3) (v := .ref (b 5)) (C := RX3) (T := TX3) (N := 10) hx hb hts inT_X3 hown hE.1 hP 0 rfl rfl 8 (by decide) (hts _ qf_X3_37) (fun _ h9 => h9) rfl dX3_carryOut_40 ?_
        refine lv_iconst (v := zI 0) hx hb dX3_carryOut_43 rfl ?_
        refine lv_aload_n hx hb dX3_carryOut_44 rfl (lv_at hl 0 rfl) ?_
        refine va_get (D := D) (ci := 3) (v := .ref (b 1)) (C := RX3) (T := TX3) (N := 10) hx hb hts inT_X3 hown hE.1 hP 0 rfl rfl 1 (by decide) (hts _ qf_X3_19) (fun _ h9 => h9) rfl dX3_carryOut_45 ?_
        refine va_getN (D := D) (ci := 1) (v := .ref (aN 3)) (C := RX1) (T := TX1) (N := 11) hx hb hts inT_X1 hown hE.1 hP 1 rfl rfl 7 (by decide) (va_Nw.use rfl (hE.2 _ nf_X3_111 rfl)) (fun _ h9 => h9) rfl dX3_carryOut_48 ?_
        refine lv_iconst (v := zI 0) hx hb dX3_carryOut_51 rfl ?_
        refine lv_aload_n hx hb dX3_carryOut_52 rfl (lv_at hl 0 rfl) ?_
        refine va_get (D := D) (ci := 3) (v := .ref (b 1)) (C := RX3) (T := TX3) (N := 10) hx hb hts inT_X3 hown hE.1 hP 0 rfl rfl 1 (by decide) (hts _ qf_X3_19) (fun _ h9 => h9) rfl dX3_carryOut_53 ?_
        refine va_getN (D := D) (ci := 1) (v := .int (zI ((n : Nat) : Int))) (C := RX1) (T := TX1) (N := 11) hx hb hts inT_X1 hown hE.1 hP 1 rfl rfl 0 (by decide) (va_Nw.use rfl (hE.2 _ nf_X3_201 rfl)) (fun _ h9 => h9) rfl dX3_carryOut_56 ?_
        refine z_copy hx hb (by rw [hml]; exact hl.1.symm) hown (hts _ qm_X3_261) (hts _ qv_acopy) (hts _ qs_acopy) (hts _ qn_System) hE hP hD hS 5 4 rfl rfl n (by omega) (by omega) (by decide) (by decide) (by decide) (Nat.le_of_ble_eq_true rfl) (zcp q g3 n) rfl dX3_carryOut_59 (fun H locs hP hD hS => ?_)
        have hP : va_P D cls [cX x b ik rr hc, cT (b 1) aN ((n : Nat) : Int) ((k : Nat) : Int) ((d : Nat) : Int) ((v : Nat) : Int), cW (b 3) wa w0, cR cI wa 12 f, cR cI (aN 3) 12 (zcp q g3 n), cR cI (b 5) 12 q] H := hP
        have hD : va_D (va_A [cX x b ik rr hc, cT (b 1) aN ((n : Nat) : Int) ((k : Nat) : Int) ((d : Nat) : Int) ((v : Nat) : Int), cW (b 3) wa w0, cR cI wa 12 f, cR cI (aN 3) 12 g3, cR cI (b 5) 12 gs] sz) [cX x b ik rr hc, cT (b 1) aN ((n : Nat) : Int) ((k : Nat) : Int) ((d : Nat) : Int) ((v : Nat) : Int), cW (b 3) wa w0, cR cI wa 12 f, cR cI (aN 3) 12 (zcp q g3 n), cR cI (b 5) 12 q] := hD
        refine lv_aload_n hx hb dX3_carryOut_62 rfl (lv_at hl 0 rfl) ?_
        refine va_get (D := D) (ci := 3) (v := .ref (b 1)) (C := RX3) (T := TX3) (N := 10) hx hb hts inT_X3 hown hE.1 hP 0 rfl rfl 1 (by decide) (hts _ qf_X3_19) (fun _ h9 => h9) rfl dX3_carryOut_63 ?_
        refine lv_dup hx hb dX3_carryOut_66 rfl ?_
        refine va_getN (D := D) (ci := 1) (v := .int (zI ((d : Nat) : Int))) (C := RX1) (T := TX1) (N := 11) hx hb hts inT_X1 hown hE.1 hP 1 rfl rfl 2 (by decide) (va_Nw.use rfl (hE.2 _ nf_X3_117 rfl)) (fun _ h9 => h9) rfl dX3_carryOut_67 ?_
        refine lv_iload_n hx hb dX3_carryOut_70 rfl (lv_at hl 2 rfl) ?_
        refine z_iadd hx hb (((d + c0) : Nat) : Int) (by omega) dX3_carryOut_71 ?_
        refine va_putN (D := D) (ci := 1) (v := .int (zI (((d + c0) : Nat) : Int))) (ty := .int) (C := RX1) (T := TX1) (N := 11) hx hb hts inT_X1 tyX1 tyX1_ok nmX1 hown hE.1 hP hD hS 1 rfl rfl 2 (by decide) (va_Nw.use rfl (hE.2 _ nf_X3_117 rfl)) (fun _ h9 => h9) rfl (by decide +kernel) rfl rfl (Nat.le_of_ble_eq_true rfl) dX3_carryOut_72 (fun H locs hP hD hS => ?_)
        have hP : va_P D cls [cX x b ik rr hc, cT (b 1) aN ((n : Nat) : Int) ((k : Nat) : Int) (((d + c0) : Nat) : Int) ((v : Nat) : Int), cW (b 3) wa w0, cR cI wa 12 f, cR cI (aN 3) 12 (zcp q g3 n), cR cI (b 5) 12 q] H := hP
        have hD : va_D (va_A [cX x b ik rr hc, cT (b 1) aN ((n : Nat) : Int) ((k : Nat) : Int) ((d : Nat) : Int) ((v : Nat) : Int), cW (b 3) wa w0, cR cI wa 12 f, cR cI (aN 3) 12 g3, cR cI (b 5) 12 gs] sz) [cX x b ik rr hc, cT (b 1) aN ((n : Nat) : Int) ((k : Nat) : Int) (((d + c0) : Nat) : Int) ((v : Nat) : Int), cW (b 3) wa w0, cR cI wa 12 f, cR cI (aN 3) 12 (zcp q g3 n), cR cI (b 5) 12 q] := hD
        refine lv_aload_n hx hb dX3_carryOut_75 rfl (lv_at hl 0 rfl) ?_
        refine va_get (D := D) (ci := 3) (v := .ref (b 1)) (C := RX3) (T := TX3) (N := 10) hx hb hts inT_X3 hown hE.1 hP 0 rfl rfl 1 (by decide) (hts _ qf_X3_19) (fun _ h9 => h9) rfl dX3_carryOut_76 ?_
        refine va_getN (D := D) (ci := 1) (v := .ref (aN 3)) (C := RX1) (T := TX1) (N := 11) hx hb hts inT_X1 hown hE.1 hP 1 rfl rfl 7 (by decide) (va_Nw.use rfl (hE.2 _ nf_X3_111 rfl)) (fun _ h9 => h9) rfl dX3_carryOut_79 ?_
        refine lv_iconst (v := zI 0) hx hb dX3_carryOut_82 rfl ?_
        refine z_iald hx hb hE hP 4 rfl 0 (by omega) (by omega) (by first | decide | omega) ((zcp q g3 n) 0) rfl dX3_carryOut_83 ?_
        rw [← hQf]
        exact z_iret K hS (zcp q g3 n, q) ⟨(by first | rfl | omega | (split <;> omega)), (by (try dsimp only); intro j hj; rw [zcp_lt (hφ j hj)]; exact hq j (by omega))⟩ hP hD dX3_carryOut_84
      · refine lv_aload_n hx hb dX3_carryOut_13 rfl (lv_at hl 0 rfl) ?_
        refine va_get (D := D) (ci := 3) (v := .ref (b 5)) (C := RX3) (T := TX3) (N := 10) hx hb hts inT_X3 hown hE.1 hP 0 rfl rfl 8 (by decide) (hts _ qf_X3_37) (fun _ h9 => h9) rfl dX3_carryOut_14 ?_
        refine lv_aload_n hx hb dX3_carryOut_17 rfl (lv_at hl 1 rfl) ?_
        refine va_getN (D := D) (ci := 2) (v := .ref wa) (C := RX2) (T := TX2) (N := 2) hx hb hts inT_X2 hown hE.1 hP 2 rfl rfl 1 (by decide) (va_Nw.use rfl (hE.2 _ nf_X3_141 rfl)) (fun _ h9 => h9) rfl dX3_carryOut_18 ?_
        refine lv_iload_n hx hb dX3_carryOut_21 rfl (lv_at hl 3 rfl) ?_
        have hφi := hφ i (by omega)
        refine z_iald hx hb hE hP 3 rfl i (by omega) (by omega) (by first | decide | omega) ((φ i : Nat) : Int) (hf i (by omega)) dX3_carryOut_22 ?_
        refine lv_aload_n hx hb dX3_carryOut_23 rfl (lv_at hl 0 rfl) ?_
        refine va_get (D := D) (ci := 3) (v := .ref (b 1)) (C := RX3) (T := TX3) (N := 10) hx hb hts inT_X3 hown hE.1 hP 0 rfl rfl 1 (by decide) (hts _ qf_X3_19) (fun _ h9 => h9) rfl dX3_carryOut_24 ?_
        refine va_getN (D := D) (ci := 1) (v := .ref (aN 3)) (C := RX1) (T := TX1) (N := 11) hx hb hts inT_X1 hown hE.1 hP 1 rfl rfl 7 (by decide) (va_Nw.use rfl (hE.2 _ nf_X3_111 rfl)) (fun _ h9 => h9) rfl dX3_carryOut_27 ?_
        refine lv_iload_n hx hb dX3_carryOut_30 rfl (lv_at hl 3 rfl) ?_
        refine z_iald hx hb hE hP 4 rfl i (by omega) (by omega) (by first | decide | omega) ((π i : Nat) : Int) (hg3 i (by omega)) dX3_carryOut_31 ?_
        refine z_iast hx hb hE hP hD hS 5 rfl (φ i) (by omega) (by omega) (by first | decide | omega) (zup q (φ i) ((π i : Nat) : Int)) rfl dX3_carryOut_32 (fun H locs hP hD hS => ?_)
        have hP : va_P D cls [cX x b ik rr hc, cT (b 1) aN ((n : Nat) : Int) ((k : Nat) : Int) ((d : Nat) : Int) ((v : Nat) : Int), cW (b 3) wa w0, cR cI wa 12 f, cR cI (aN 3) 12 g3, cR cI (b 5) 12 (zup q (φ i) ((π i : Nat) : Int))] H := hP
        have hD : va_D (va_A [cX x b ik rr hc, cT (b 1) aN ((n : Nat) : Int) ((k : Nat) : Int) ((d : Nat) : Int) ((v : Nat) : Int), cW (b 3) wa w0, cR cI wa 12 f, cR cI (aN 3) 12 g3, cR cI (b 5) 12 gs] sz) [cX x b ik rr hc, cT (b 1) aN ((n : Nat) : Int) ((k : Nat) : Int) ((d : Nat) : Int) ((v : Nat) : Int), cW (b 3) wa w0, cR cI wa 12 f, cR cI (aN 3) 12 g3, cR cI (b 5) 12 (zup q (φ i) ((π i : Nat) : Int))] := hD
        refine z_iinc (k := 3) (lv' := [(3, .int (zI (((i + 1) : Nat) : Int))), (0, .ref x), (1, .ref (b 3)), (2, .int (zI ((c0 : Nat) : Int)))]) hx hb (((i + 1) : Nat) : Int) (by omega) dX3_carryOut_33 hl rfl (by decide) rfl (fun ls hl => ?_)
        refine lv_goto (tgt := 2) hx hb dX3_carryOut_36 (by decide) ?_
        exact ih_2 (i + 1) (zup q (φ i) ((π i : Nat) : Int)) (by omega) (by omega) (by intro j hj; rcases Nat.lt_or_ge j i with h1 | h1; rw [zup_n (hinj j i h1 (by omega))]; exact hq j h1; rw [show j = i by omega]; exact zup_s _ _ _) _ _ _ hP hD hS (lv_sub hl [1, 2, 3, 0] rfl)
  exact cut_2 (n - 0 + 1) 0 gs (Nat.lt_succ_self _) (by omega) (by intro j hj; omega) _ _ _ hP hD hS (lv_sub hl [1, 2, 3, 0] rfl)
set_option maxHeartbeats 4000000 in
set_option maxRecDepth 100000 in
theorem c_X3_leftAtWorst (l : Launch) (D : va_G) (cI : ClassId) (x : Nat) (b : Nat → Nat) (ik rr hc : Int) (aN : Nat → Nat) (n k d v : Nat) (gt : Nat → Int) (kd p0 : Nat) (P : Nat → Bool) (hn : 2 ≤ n ∧ n ≤ 12) (hkd : kd ≤ 4) (hp0 : p0 < n) : zMi l yX3_leftAtWorst cX3_leftAtWorst 7 (some .int) ({ frames := 3, cells := 0, slots := 0, locals := 74 }) D cI [.ref x, .int (zI ((kd : Nat) : Int)), .int (zI (((btN P 10) : Nat) : Int)), .int (zI ((p0 : Nat) : Int))] [cX x b ik rr hc, cT (b 1) aN ((n : Nat) : Int) ((k : Nat) : Int) ((d : Nat) : Int) ((v : Nat) : Int), cR cI (b 4) 12 gt] (fun (z : Int) (u : (Nat → Int)) => z = (((lw n kd P p0) : Nat) : Int)) (fun (u : (Nat → Int)) => [cX x b ik rr hc, cT (b 1) aN ((n : Nat) : Int) ((k : Nat) : Int) ((d : Nat) : Int) ((v : Nat) : Int), cR cI (b 4) 12 u]) := by
  intro sz
  refine zstart rfl (by decide) (Nat.le_of_ble_eq_true rfl) ?_
  intro p e s m below meth c ls K hnm hsz hP hD hS hl
  generalize hargs : ([.ref x, .int (zI ((kd : Nat) : Int)), .int (zI (((btN P 10) : Nat) : Int)), .int (zI ((p0 : Nat) : Int))] : List Value).toArray = args at K ⊢
  generalize hQf : MQ below _ args s _ _ _ = Qf
  have K : zK p s m args meth c cX3_leftAtWorst 7 RX3 (some .int) D cI := K
  obtain ⟨hx, hb, hml, hown, hts, hE, -, -⟩ := id K
  have hA := zhA (ws0 := [cX x b ik rr hc, cT (b 1) aN ((n : Nat) : Int) ((k : Nat) : Int) ((d : Nat) : Int) ((v : Nat) : Int), cR cI (b 4) 12 gt]) hsz
  have hl : lv_has ls 7 [(0, .ref x), (1, .int (zI ((kd : Nat) : Int))), (2, .int (zI (((btN P 10) : Nat) : Int))), (3, .int (zI ((p0 : Nat) : Int)))] := hl
  have hB := btN_10 P (Nat.le_refl 10)
  refine lv_aload_n hx hb dX3_leftAtWorst_0 rfl (lv_at hl 0 rfl) ?_
  refine va_get (D := D) (ci := 3) (v := .ref (b 4)) (C := RX3) (T := TX3) (N := 10) hx hb hts inT_X3 hown hE.1 hP 0 rfl rfl 7 (by decide) (hts _ qf_X3_33) (fun _ h9 => h9) rfl dX3_leftAtWorst_1 ?_
  refine lv_iconst (v := zI 0) hx hb dX3_leftAtWorst_4 rfl ?_
  refine zcall_v (wc := [cR cI (b 4) 12 gt]) (wr := [cX x b ik rr hc, cT (b 1) aN ((n : Nat) : Int) ((k : Nat) : Int) ((d : Nat) : Int) ((v : Nat) : Int)]) (rest := []) hE hP hD hS hA [2] [0, 1] [0, 1, 2] rfl rfl (by decide) (by decide) (by decide) (fun (u : Unit) => [cX x b ik rr hc, cT (b 1) aN ((n : Nat) : Int) ((k : Nat) : Int) ((d : Nat) : Int) ((v : Nat) : Int), cR cI (b 4) 12 (zcp (fun _ => 0) gt 12)]) (fun u => rfl) (fun hPc hDc => zrunS (As := [.ref (b 4), .int (zI 0)]) (rest := []) K k_J7_fill_53178 qm_X3_270 ⟨⟨rfl, rfl⟩, ⟨Nat.le_of_ble_eq_true rfl, Nat.le_of_ble_eq_true rfl⟩⟩ hPc hDc (c_J7_fill_53178 l D cI (b 4) 12 0 gt (by first | assumption | omega) _) rfl hl.1 rfl (Nat.le_of_ble_eq_true rfl) dX3_leftAtWorst_5 ⟨Nat.zero_le _, Nat.zero_le _⟩) (by decide) (fun u H locs hpost hP hD hS => ?_)
  have hP : va_P D cls [cX x b ik rr hc, cT (b 1) aN ((n : Nat) : Int) ((k : Nat) : Int) ((d : Nat) : Int) ((v : Nat) : Int), cR cI (b 4) 12 (zcp (fun _ => 0) gt 12)] H := hP
  have hD : va_D (va_A [cX x b ik rr hc, cT (b 1) aN ((n : Nat) : Int) ((k : Nat) : Int) ((d : Nat) : Int) ((v : Nat) : Int), cR cI (b 4) 12 gt] sz) [cX x b ik rr hc, cT (b 1) aN ((n : Nat) : Int) ((k : Nat) : Int) ((d : Nat) : Int) ((v : Nat) : Int), cR cI (b 4) 12 (zcp (fun _ => 0) gt 12)] := hD
  refine lv_iconst (v := zI 0) hx hb dX3_leftAtWorst_8 rfl ?_
  refine lv_istore (lv' := [(4, .int (zI 0)), (0, .ref x), (1, .int (zI ((kd : Nat) : Int))), (2, .int (zI (((btN P 10) : Nat) : Int))), (3, .int (zI ((p0 : Nat) : Int)))]) hx hb dX3_leftAtWorst_9 hl (by decide) rfl (fun ls hl => ?_)
  refine lv_iconst (v := zI 0) hx hb dX3_leftAtWorst_11 rfl ?_
  refine lv_istore (lv' := [(5, .int (zI 0)), (4, .int (zI 0)), (0, .ref x), (1, .int (zI ((kd : Nat) : Int))), (2, .int (zI (((btN P 10) : Nat) : Int))), (3, .int (zI ((p0 : Nat) : Int)))]) hx hb dX3_leftAtWorst_12 hl (by decide) rfl (fun ls hl => ?_)
  have cut_14 : ∀ (N_14 : Nat), ∀ (i y : Nat) (q : Nat → Int), 10 - i < N_14 → (i ≤ 10) → (y = mx (lwc n kd P p0 i) n) → (∀ j, j < n → q j = ((lwc n kd P p0 i j : Nat) : Int)) → (y ≤ 10) → ∀ (H : Heap) (locs : List Loc) (ls : Array Slot), va_P D cls [cX x b ik rr hc, cT (b 1) aN ((n : Nat) : Int) ((k : Nat) : Int) ((d : Nat) : Int) ((v : Nat) : Int), cR cI (b 4) 12 q] H → va_D (va_A [cX x b ik rr hc, cT (b 1) aN ((n : Nat) : Int) ((k : Nat) : Int) ((d : Nat) : Int) ((v : Nat) : Int), cR cI (b 4) 12 gt] sz) [cX x b ik rr hc, cT (b 1) aN ((n : Nat) : Int) ((k : Nat) : Int) ((d : Nat) : Int) ((v : Nat) : Int), cR cI (b 4) 12 q] → va_S (va_A [cX x b ik rr hc, cT (b 1) aN ((n : Nat) : Int) ((k : Nat) : Int) ((d : Nat) : Int) ((v : Nat) : Int), cR cI (b 4) 12 gt] sz) s.heap H locs → lv_has ls 7 [(0, .ref x), (1, .int (zI ((kd : Nat) : Int))), (2, .int (zI (((btN P 10) : Nat) : Int))), (3, .int (zI ((p0 : Nat) : Int))), (4, .int (zI ((y : Nat) : Int))), (5, .int (zI ((i : Nat) : Int)))] → W p l e ({ frames := 3, cells := 0, slots := 0, locals := 74 }) s m args below meth c H locs 0 0 Qf (F0 m 14 ls []) := by
    intro N_14
    induction N_14 with
    | zero => intro i y q hm_14; exact absurd hm_14 (Nat.not_lt_zero _)
    | succ N_14 ih_14 =>
      intro i y q hm_14 hi hy hq hy0 H locs ls hP hD hS hl
      refine lv_iload hx hb dX3_leftAtWorst_14 (lv_at hl 5 rfl) ?_
      refine lv_bipush (v := zI 10) hx hb dX3_leftAtWorst_16 (by decide) ?_
      refine z_icmp_ge (tgt := 78) hx hb (by omega) dX3_leftAtWorst_18 (by decide) (fun c_18 => ?_) (fun c_18 => ?_)
      · refine lv_iload hx hb dX3_leftAtWorst_78 (lv_at hl 4 rfl) ?_
        rw [← hQf]
        exact z_iret K hS (q) (by rw [hy, show i = 10 by omega]; rfl) hP hD dX3_leftAtWorst_80
      · refine lv_iload_n hx hb dX3_leftAtWorst_21 rfl (lv_at hl 2 rfl) ?_
        refine lv_iload hx hb dX3_leftAtWorst_22 (lv_at hl 5 rfl) ?_
        refine z_ishr hx hb ((btN P 10 / 2 ^ i : Nat) : Int) (by exact zI_shr hB (by omega)) dX3_leftAtWorst_24 ?_
        refine lv_iconst (v := zI 1) hx hb dX3_leftAtWorst_25 rfl ?_
        refine z_iand hx hb ((btN P 10 / 2 ^ i % 2 : Nat) : Int) (by exact zI_and1 (Nat.lt_of_le_of_lt (Nat.div_le_self _ _) (by omega))) dX3_leftAtWorst_26 ?_
        have hbit := btN_bit (P := P) (m := 10) (i := i) (by omega)
        refine lv_iconst (v := zI 1) hx hb dX3_leftAtWorst_27 rfl ?_
        refine z_icmp_ne (tgt := 72) hx hb (by omega) dX3_leftAtWorst_28 (by decide) (fun c_28 => ?_) (fun c_28 => ?_)
        · have hPi : P i = false := by
            cases hPi : P i with
            | false => rfl
            | true => rw [hPi] at hbit; simp at hbit; omega
          have hy2 : y = mx (lwc n kd P p0 (i + 1)) n := by rw [hy]; exact mx_cong (fun j _ => (lwc_f (Or.inl hPi)).symm)
          have hq2 : ∀ j, j < n → q j = ((lwc n kd P p0 (i + 1) j : Nat) : Int) := fun j hj => by rw [lwc_f (Or.inl hPi)]; exact hq j hj
          refine z_iinc (k := 5) (lv' := [(5, .int (zI (((i + 1) : Nat) : Int))), (0, .ref x), (1, .int (zI ((kd : Nat) : Int))), (2, .int (zI (((btN P 10) : Nat) : Int))), (3, .int (zI ((p0 : Nat) : Int))), (4, .int (zI ((y : Nat) : Int)))]) hx hb (((i + 1) : Nat) : Int) (by omega) dX3_leftAtWorst_72 hl rfl (by decide) rfl (fun ls hl => ?_)
          refine lv_goto (tgt := 14) hx hb dX3_leftAtWorst_75 (by decide) ?_
          exact ih_14 (i + 1) y q (by omega) (by omega) (by first | exact hy2 | exact hy1) (by first | exact hq2 | exact hq1) (by omega) _ _ _ hP hD hS (lv_sub hl [1, 2, 3, 4, 5, 0] rfl)
        · have hPi : P i = true := by
            cases hPi : P i with
            | true => rfl
            | false => rw [hPi] at hbit; simp at hbit; omega
          have hmvl := mv_lt (n := n) (kd := kd) (nm := i) (p := p0) hn.2 hkd (by omega) hp0
          obtain ⟨t0, ht0⟩ : ∃ t0, t0 = mv n kd i p0 := ⟨_, rfl⟩
          have hcl := lwc_le n kd P p0 i t0
          refine lv_iload_n hx hb dX3_leftAtWorst_31 rfl (lv_at hl 1 rfl) ?_
          refine lv_iload hx hb dX3_leftAtWorst_32 (lv_at hl 5 rfl) ?_
          refine lv_aload_n hx hb dX3_leftAtWorst_34 rfl (lv_at hl 0 rfl) ?_
          refine va_get (D := D) (ci := 3) (v := .ref (b 1)) (C := RX3) (T := TX3) (N := 10) hx hb hts inT_X3 hown hE.1 hP 0 rfl rfl 1 (by decide) (hts _ qf_X3_19) (fun _ h9 => h9) rfl dX3_leftAtWorst_35 ?_
          refine va_getN (D := D) (ci := 1) (v := .int (zI ((n : Nat) : Int))) (C := RX1) (T := TX1) (N := 11) hx hb hts inT_X1 hown hE.1 hP 1 rfl rfl 0 (by decide) (va_Nw.use rfl (hE.2 _ nf_X3_201 rfl)) (fun _ h9 => h9) rfl dX3_leftAtWorst_38 ?_
          refine lv_iload_n hx hb dX3_leftAtWorst_41 rfl (lv_at hl 3 rfl) ?_
          refine zcall_i (wc := []) (wr := [cX x b ik rr hc, cT (b 1) aN ((n : Nat) : Int) ((k : Nat) : Int) ((d : Nat) : Int) ((v : Nat) : Int), cR cI (b 4) 12 q]) (rest := []) hE hP hD hS hA [] [0, 1, 2] [0, 1, 2] rfl rfl (by decide) (by decide) (by decide) (fun (u : Unit) => [cX x b ik rr hc, cT (b 1) aN ((n : Nat) : Int) ((k : Nat) : Int) ((d : Nat) : Int) ((v : Nat) : Int), cR cI (b 4) 12 q]) (fun u => rfl) (fun hPc hDc => zrunS (As := [.int (zI ((kd : Nat) : Int)), .int (zI ((i : Nat) : Int)), .int (zI ((n : Nat) : Int)), .int (zI ((p0 : Nat) : Int))]) (rest := []) K k_X3_moved qm_X3_276 ⟨⟨rfl, rfl⟩, ⟨Nat.le_of_ble_eq_true rfl, Nat.le_of_ble_eq_true rfl⟩⟩ hPc hDc (c_X3_moved l D cI kd i n p0 (by first | assumption | omega) (by first | assumption | omega) (by first | assumption | omega) (by first | assumption | omega) _) rfl hl.1 rfl (Nat.le_of_ble_eq_true rfl) dX3_leftAtWorst_42 ⟨Nat.zero_le _, Nat.zero_le _⟩) (by decide) (fun z u H locs hpost hP hD hS => ?_)
          subst hpost
          have hP : va_P D cls [cX x b ik rr hc, cT (b 1) aN ((n : Nat) : Int) ((k : Nat) : Int) ((d : Nat) : Int) ((v : Nat) : Int), cR cI (b 4) 12 q] H := hP
          have hD : va_D (va_A [cX x b ik rr hc, cT (b 1) aN ((n : Nat) : Int) ((k : Nat) : Int) ((d : Nat) : Int) ((v : Nat) : Int), cR cI (b 4) 12 gt] sz) [cX x b ik rr hc, cT (b 1) aN ((n : Nat) : Int) ((k : Nat) : Int) ((d : Nat) : Int) ((v : Nat) : Int), cR cI (b 4) 12 q] := hD
          refine W.eq (g2 := F0 m 45 ls [.int (zI (((mv n kd i p0) : Nat) : Int))]) rfl ?_
          refine W.eq (g2 := F0 m 45 ls [.int (zI ((t0 : Nat) : Int))]) (by rw [show ((((mv n kd i p0) : Nat) : Int) : Int) = ((t0 : Nat) : Int) from by rw [ht0]]) ?_
          refine lv_istore (lv' := [(6, .int (zI ((t0 : Nat) : Int))), (0, .ref x), (1, .int (zI ((kd : Nat) : Int))), (2, .int (zI (((btN P 10) : Nat) : Int))), (3, .int (zI ((p0 : Nat) : Int))), (4, .int (zI ((y : Nat) : Int))), (5, .int (zI ((i : Nat) : Int)))]) hx hb dX3_leftAtWorst_45 hl (by decide) rfl (fun ls hl => ?_)
          refine lv_aload_n hx hb dX3_leftAtWorst_47 rfl (lv_at hl 1 rfl) ?_
          refine va_get (D := D) (ci := 3) (v := .ref (b 4)) (C := RX3) (T := TX3) (N := 10) hx hb hts inT_X3 hown hE.1 hP 0 rfl rfl 7 (by decide) (hts _ qf_X3_33) (fun _ h9 => h9) rfl dX3_leftAtWorst_48 ?_
          refine lv_iload hx hb dX3_leftAtWorst_51 (lv_at hl 0 rfl) ?_
          refine lv_dup2_11 hx hb dX3_leftAtWorst_53 rfl rfl ?_
          refine z_iald hx hb hE hP 2 rfl t0 (by omega) (by omega) (by first | decide | omega) ((lwc n kd P p0 i t0 : Nat) : Int) (hq t0 (by omega)) dX3_leftAtWorst_54 ?_
          refine lv_iconst (v := zI 1) hx hb dX3_leftAtWorst_55 rfl ?_
          refine z_iadd hx hb ((((lwc n kd P p0 i t0) + 1) : Nat) : Int) (by omega) dX3_leftAtWorst_56 ?_
          refine z_iast hx hb hE hP hD hS 2 rfl t0 (by omega) (by omega) (by first | decide | omega) (zup q t0 ((((lwc n kd P p0 i t0) + 1) : Nat) : Int)) rfl dX3_leftAtWorst_57 (fun H locs hP hD hS => ?_)
          have hP : va_P D cls [cX x b ik rr hc, cT (b 1) aN ((n : Nat) : Int) ((k : Nat) : Int) ((d : Nat) : Int) ((v : Nat) : Int), cR cI (b 4) 12 (zup q t0 ((((lwc n kd P p0 i t0) + 1) : Nat) : Int))] H := hP
          have hD : va_D (va_A [cX x b ik rr hc, cT (b 1) aN ((n : Nat) : Int) ((k : Nat) : Int) ((d : Nat) : Int) ((v : Nat) : Int), cR cI (b 4) 12 gt] sz) [cX x b ik rr hc, cT (b 1) aN ((n : Nat) : Int) ((k : Nat) : Int) ((d : Nat) : Int) ((v : Nat) : Int), cR cI (b 4) 12 (zup q t0 ((((lwc n kd P p0 i t0) + 1) : Nat) : Int))] := hD
          refine lv_iload hx hb dX3_leftAtWorst_58 (lv_at hl 5 rfl) ?_
          refine lv_aload_n hx hb dX3_leftAtWorst_60 rfl (lv_at hl 1 rfl) ?_
          refine va_get (D := D) (ci := 3) (v := .ref (b 4)) (C := RX3) (T := TX3) (N := 10) hx hb hts inT_X3 hown hE.1 hP 0 rfl rfl 7 (by decide) (hts _ qf_X3_33) (fun _ h9 => h9) rfl dX3_leftAtWorst_61 ?_
          refine lv_iload hx hb dX3_leftAtWorst_64 (lv_at hl 0 rfl) ?_
          refine z_iald hx hb hE hP 2 rfl t0 (by omega) (by omega) (by first | decide | omega) (((lwc n kd P p0 i t0 + 1) : Nat) : Int) (zup_s _ _ _) dX3_leftAtWorst_66 ?_
          refine z_Mmax hx hb (by rw [hml]; exact hl.1.symm) hown (hts _ qm_X3_279) (hts _ qs_Mmax) (hts _ qn_Math) (hts _ qc_Mmax) (by decide) (Nat.le_of_ble_eq_true rfl) (by decide) (by decide) (by omega) ((max y (lwc n kd P p0 i t0 + 1) : Nat) : Int) (by split <;> omega) dX3_leftAtWorst_67 ?_
          have hct : lwc n kd P p0 (i + 1) t0 = lwc n kd P p0 i t0 + 1 := lwc_t hPi ht0.symm
          have hco : ∀ j, j < n → j ≠ t0 → lwc n kd P p0 (i + 1) j = lwc n kd P p0 i j := fun j _ h9 => lwc_f (Or.inr (fun h8 => h9 (by omega)))
          have hy1 : max y (lwc n kd P p0 i t0 + 1) = mx (lwc n kd P p0 (i + 1)) n := by rw [mx_up (f := lwc n kd P p0 i) (t := t0) (by omega) hco (by omega), ← hy, hct]
          have hq1 : ∀ j, j < n → zup q t0 ((lwc n kd P p0 i t0 + 1 : Nat) : Int) j = ((lwc n kd P p0 (i + 1) j : Nat) : Int) := by
            intro j hj
            by_cases h9 : j = t0
            · subst h9; rw [zup_s, hct]
            · rw [zup_n h9, hco j hj h9]; exact hq j hj
          refine lv_istore (lv' := [(4, .int (zI ((max y (lwc n kd P p0 i t0 + 1) : Nat) : Int))), (6, .int (zI ((t0 : Nat) : Int))), (0, .ref x), (1, .int (zI ((kd : Nat) : Int))), (2, .int (zI (((btN P 10) : Nat) : Int))), (3, .int (zI ((p0 : Nat) : Int))), (5, .int (zI ((i : Nat) : Int)))]) hx hb dX3_leftAtWorst_70 hl (by decide) rfl (fun ls hl => ?_)
          refine z_iinc (k := 6) (lv' := [(5, .int (zI (((i + 1) : Nat) : Int))), (4, .int (zI ((max y (lwc n kd P p0 i t0 + 1) : Nat) : Int))), (6, .int (zI ((t0 : Nat) : Int))), (0, .ref x), (1, .int (zI ((kd : Nat) : Int))), (2, .int (zI (((btN P 10) : Nat) : Int))), (3, .int (zI ((p0 : Nat) : Int)))]) hx hb (((i + 1) : Nat) : Int) (by omega) dX3_leftAtWorst_72 hl rfl (by decide) rfl (fun ls hl => ?_)
          refine lv_goto (tgt := 14) hx hb dX3_leftAtWorst_75 (by decide) ?_
          exact ih_14 (i + 1) (max y (lwc n kd P p0 i t0 + 1)) (zup q t0 ((((lwc n kd P p0 i t0) + 1) : Nat) : Int)) (by omega) (by omega) (by first | exact hy2 | exact hy1) (by first | exact hq2 | exact hq1) (by omega) _ _ _ hP hD hS (lv_sub hl [3, 4, 5, 6, 1, 0] rfl)
  exact cut_14 (10 - 0 + 1) 0 0 (zcp (fun _ => 0) gt 12) (Nat.lt_succ_self _) (by omega) (by exact (mx_0 n).symm) (by exact fun j hj => zcp_lt (by omega)) (by omega) _ _ _ hP hD hS (lv_sub hl [2, 3, 4, 5, 1, 0] rfl)
set_option maxHeartbeats 4000000 in
set_option maxRecDepth 100000 in
theorem c_X3_placeToWatch (l : Launch) (D : va_G) (cI : ClassId) (x : Nat) (b : Nat → Nat) (ik rr hc : Int) (aN : Nat → Nat) (n k d v : Nat) (gt : Nat → Int) (kd : Nat) (P : Nat → Bool) (hn : 2 ≤ n ∧ n ≤ 12) (hkd : kd ≤ 4) : zMi l yX3_placeToWatch cX3_placeToWatch 7 (some .int) ({ frames := 4, cells := 0, slots := 0, locals := 100 }) D cI [.ref x, .int (zI ((kd : Nat) : Int)), .int (zI (((btN P 10) : Nat) : Int))] [cX x b ik rr hc, cT (b 1) aN ((n : Nat) : Int) ((k : Nat) : Int) ((d : Nat) : Int) ((v : Nat) : Int), cR cI (b 4) 12 gt] (fun (z : Int) (u : (Nat → Int)) => z = (if btN P 10 = 0 then (-1 : Int) else ((wbN (lw n kd P) n : Nat) : Int))) (fun (u : (Nat → Int)) => [cX x b ik rr hc, cT (b 1) aN ((n : Nat) : Int) ((k : Nat) : Int) ((d : Nat) : Int) ((v : Nat) : Int), cR cI (b 4) 12 u]) := by
  intro sz
  refine zstart rfl (by decide) (Nat.le_of_ble_eq_true rfl) ?_
  intro p e s m below meth c ls K hnm hsz hP hD hS hl
  generalize hargs : ([.ref x, .int (zI ((kd : Nat) : Int)), .int (zI (((btN P 10) : Nat) : Int))] : List Value).toArray = args at K ⊢
  generalize hQf : MQ below _ args s _ _ _ = Qf
  have K : zK p s m args meth c cX3_placeToWatch 7 RX3 (some .int) D cI := K
  obtain ⟨hx, hb, hml, hown, hts, hE, -, -⟩ := id K
  have hA := zhA (ws0 := [cX x b ik rr hc, cT (b 1) aN ((n : Nat) : Int) ((k : Nat) : Int) ((d : Nat) : Int) ((v : Nat) : Int), cR cI (b 4) 12 gt]) hsz
  have hl : lv_has ls 7 [(0, .ref x), (1, .int (zI ((kd : Nat) : Int))), (2, .int (zI (((btN P 10) : Nat) : Int)))] := hl
  have hB := btN_10 P (Nat.le_refl 10)
  refine lv_iload_n hx hb dX3_placeToWatch_0 rfl (lv_at hl 2 rfl) ?_
  refine z_if_ne (tgt := 6) hx hb (by omega) dX3_placeToWatch_1 (by decide) (fun c_1 => ?_) (fun c_1 => ?_)
  · refine lv_iconst (v := zI 0) hx hb dX3_placeToWatch_6 rfl ?_
    refine lv_istore_n (lv' := [(3, .int (zI 0)), (0, .ref x), (1, .int (zI ((kd : Nat) : Int))), (2, .int (zI (((btN P 10) : Nat) : Int)))]) hx hb dX3_placeToWatch_7 rfl hl (by decide) rfl (fun ls hl => ?_)
    refine lv_bipush (v := zI 11) hx hb dX3_placeToWatch_8 (by decide) ?_
    refine lv_istore (lv' := [(4, .int (zI 11)), (3, .int (zI 0)), (0, .ref x), (1, .int (zI ((kd : Nat) : Int))), (2, .int (zI (((btN P 10) : Nat) : Int)))]) hx hb dX3_placeToWatch_10 hl (by decide) rfl (fun ls hl => ?_)
    refine lv_iconst (v := zI 0) hx hb dX3_placeToWatch_12 rfl ?_
    refine lv_istore (lv' := [(5, .int (zI 0)), (4, .int (zI 11)), (3, .int (zI 0)), (0, .ref x), (1, .int (zI ((kd : Nat) : Int))), (2, .int (zI (((btN P 10) : Nat) : Int)))]) hx hb dX3_placeToWatch_13 hl (by decide) rfl (fun ls hl => ?_)
    have cut_15 : ∀ (N_15 : Nat), ∀ (i y w : Nat) (q : Nat → Int), n - i < N_15 → (i ≤ n) → (y = wbN (lw n kd P) i) → (w = wfN (lw n kd P) i) → ∀ (H : Heap) (locs : List Loc) (ls : Array Slot), va_P D cls [cX x b ik rr hc, cT (b 1) aN ((n : Nat) : Int) ((k : Nat) : Int) ((d : Nat) : Int) ((v : Nat) : Int), cR cI (b 4) 12 q] H → va_D (va_A [cX x b ik rr hc, cT (b 1) aN ((n : Nat) : Int) ((k : Nat) : Int) ((d : Nat) : Int) ((v : Nat) : Int), cR cI (b 4) 12 gt] sz) [cX x b ik rr hc, cT (b 1) aN ((n : Nat) : Int) ((k : Nat) : Int) ((d : Nat) : Int) ((v : Nat) : Int), cR cI (b 4) 12 q] → va_S (va_A [cX x b ik rr hc, cT (b 1) aN ((n : Nat) : Int) ((k : Nat) : Int) ((d : Nat) : Int) ((v : Nat) : Int), cR cI (b 4) 12 gt] sz) s.heap H locs → lv_has ls 7 [(0, .ref x), (1, .int (zI ((kd : Nat) : Int))), (2, .int (zI (((btN P 10) : Nat) : Int))), (3, .int (zI ((y : Nat) : Int))), (4, .int (zI ((w : Nat) : Int))), (5, .int (zI ((i : Nat) : Int)))] → W p l e ({ frames := 4, cells := 0, slots := 0, locals := 100 }) s m args below meth c H locs 0 0 Qf (F0 m 15 ls []) := by
      intro N_15
      induction N_15 with
      | zero => intro i y w q hm_15; exact absurd hm_15 (Nat.not_lt_zero _)
      | succ N_15 ih_15 =>
        intro i y w q hm_15 hi hy hw H locs ls hP hD hS hl
        refine lv_iload hx hb dX3_placeToWatch_15 (lv_at hl 5 rfl) ?_
        refine lv_aload_n hx hb dX3_placeToWatch_17 rfl (lv_at hl 0 rfl) ?_
        refine va_get (D := D) (ci := 3) (v := .ref (b 1)) (C := RX3) (T := TX3) (N := 10) hx hb hts inT_X3 hown hE.1 hP 0 rfl rfl 1 (by decide) (hts _ qf_X3_19) (fun _ h9 => h9) rfl dX3_placeToWatch_18 ?_
        refine va_getN (D := D) (ci := 1) (v := .int (zI ((n : Nat) : Int))) (C := RX1) (T := TX1) (N := 11) hx hb hts inT_X1 hown hE.1 hP 1 rfl rfl 0 (by decide) (va_Nw.use rfl (hE.2 _ nf_X3_201 rfl)) (fun _ h9 => h9) rfl dX3_placeToWatch_21 ?_
        refine z_icmp_ge (tgt := 57) hx hb (by omega) dX3_placeToWatch_24 (by decide) (fun c_24 => ?_) (fun c_24 => ?_)
        · refine lv_iload_n hx hb dX3_placeToWatch_57 rfl (lv_at hl 3 rfl) ?_
          rw [← hQf]
          exact z_iret K hS (q) (by rw [if_neg (by omega), hy, show i = n by omega]) hP hD dX3_placeToWatch_58
        · refine lv_aload_n hx hb dX3_placeToWatch_27 rfl (lv_at hl 0 rfl) ?_
          refine lv_iload_n hx hb dX3_placeToWatch_28 rfl (lv_at hl 1 rfl) ?_
          refine lv_iload_n hx hb dX3_placeToWatch_29 rfl (lv_at hl 2 rfl) ?_
          refine lv_iload hx hb dX3_placeToWatch_30 (lv_at hl 5 rfl) ?_
          have hl1 : lw n kd P i ≤ 10 := mx_le (fun a _ => lwc_le n kd P i 10 a)
          have hw0 := wfN_le (lw n kd P) i
          rw [← hw] at hw0
          refine zcall_i (wc := [cX x b ik rr hc, cT (b 1) aN ((n : Nat) : Int) ((k : Nat) : Int) ((d : Nat) : Int) ((v : Nat) : Int), cR cI (b 4) 12 q]) (wr := []) (rest := []) hE hP hD hS hA [0, 1, 2] [] [0, 1, 2] rfl rfl (by decide) (by decide) (by decide) (fun (u : (Nat → Int)) => [cX x b ik rr hc, cT (b 1) aN ((n : Nat) : Int) ((k : Nat) : Int) ((d : Nat) : Int) ((v : Nat) : Int), cR cI (b 4) 12 u]) (fun u => rfl) (fun hPc hDc => zrunV (As := [.int (zI ((kd : Nat) : Int)), .int (zI (((btN P 10) : Nat) : Int)), .int (zI ((i : Nat) : Int))]) (rest := []) (q0 := 0) (ci := 3) K k_X3_leftAtWorst qm_X3_267 ⟨⟨rfl, rfl⟩, ⟨Nat.le_of_ble_eq_true rfl, Nat.le_of_ble_eq_true rfl⟩⟩ rfl rfl hPc hDc (c_X3_leftAtWorst l D cI x b ik rr hc aN n k d v q kd i P (by first | assumption | omega) (by first | assumption | omega) (by first | assumption | omega) _) rfl hl.1 rfl (Nat.le_of_ble_eq_true rfl) dX3_placeToWatch_32 ⟨Nat.zero_le _, Nat.zero_le _⟩) (by decide) (fun z u H locs hpost hP hD hS => ?_)
          obtain ⟨ot_1, hu⟩ : ∃ z, z = u := ⟨_, rfl⟩
          subst hu
          subst hpost
          have hP : va_P D cls [cX x b ik rr hc, cT (b 1) aN ((n : Nat) : Int) ((k : Nat) : Int) ((d : Nat) : Int) ((v : Nat) : Int), cR cI (b 4) 12 ot_1] H := hP
          have hD : va_D (va_A [cX x b ik rr hc, cT (b 1) aN ((n : Nat) : Int) ((k : Nat) : Int) ((d : Nat) : Int) ((v : Nat) : Int), cR cI (b 4) 12 gt] sz) [cX x b ik rr hc, cT (b 1) aN ((n : Nat) : Int) ((k : Nat) : Int) ((d : Nat) : Int) ((v : Nat) : Int), cR cI (b 4) 12 ot_1] := hD
          refine W.eq (g2 := F0 m 35 ls [.int (zI (((lw n kd P i) : Nat) : Int))]) rfl ?_
          refine lv_istore (lv' := [(6, .int (zI (((lw n kd P i) : Nat) : Int))), (0, .ref x), (1, .int (zI ((kd : Nat) : Int))), (2, .int (zI (((btN P 10) : Nat) : Int))), (3, .int (zI ((y : Nat) : Int))), (4, .int (zI ((w : Nat) : Int))), (5, .int (zI ((i : Nat) : Int)))]) hx hb dX3_placeToWatch_35 hl (by decide) rfl (fun ls hl => ?_)
          refine lv_iload hx hb dX3_placeToWatch_37 (lv_at hl 0 rfl) ?_
          refine lv_iload hx hb dX3_placeToWatch_39 (lv_at hl 5 rfl) ?_
          refine z_icmp_ge (tgt := 51) hx hb (by omega) dX3_placeToWatch_41 (by decide) (fun c_41 => ?_) (fun c_41 => ?_)
          · have hy2 : y = wbN (lw n kd P) (i + 1) := by rw [wbN, ← hw, if_neg (by omega)]; exact hy
            have hw2 : w = wfN (lw n kd P) (i + 1) := by rw [wfN, ← hw, if_neg (by omega)]
            refine z_iinc (k := 6) (lv' := [(5, .int (zI (((i + 1) : Nat) : Int))), (6, .int (zI (((lw n kd P i) : Nat) : Int))), (0, .ref x), (1, .int (zI ((kd : Nat) : Int))), (2, .int (zI (((btN P 10) : Nat) : Int))), (3, .int (zI ((y : Nat) : Int))), (4, .int (zI ((w : Nat) : Int)))]) hx hb (((i + 1) : Nat) : Int) (by omega) dX3_placeToWatch_51 hl rfl (by decide) rfl (fun ls hl => ?_)
            refine lv_goto (tgt := 15) hx hb dX3_placeToWatch_54 (by decide) ?_
            exact ih_15 (i + 1) y w ot_1 (by omega) (by omega) (by first | exact hy1 | exact hy2) (by first | exact hw1 | exact hw2) _ _ _ hP hD hS (lv_sub hl [2, 3, 4, 5, 6, 0] rfl)
          · have hy1 : i = wbN (lw n kd P) (i + 1) := by rw [wbN, ← hw, if_pos (by omega)]
            have hw1 : lw n kd P i = wfN (lw n kd P) (i + 1) := by rw [wfN, ← hw, if_pos (by omega)]
            refine lv_iload hx hb dX3_placeToWatch_44 (lv_at hl 0 rfl) ?_
            refine lv_istore (lv' := [(4, .int (zI (((lw n kd P i) : Nat) : Int))), (6, .int (zI (((lw n kd P i) : Nat) : Int))), (0, .ref x), (1, .int (zI ((kd : Nat) : Int))), (2, .int (zI (((btN P 10) : Nat) : Int))), (3, .int (zI ((y : Nat) : Int))), (5, .int (zI ((i : Nat) : Int)))]) hx hb dX3_placeToWatch_46 hl (by decide) rfl (fun ls hl => ?_)
            refine lv_iload hx hb dX3_placeToWatch_48 (lv_at hl 6 rfl) ?_
            refine lv_istore_n (lv' := [(3, .int (zI ((i : Nat) : Int))), (4, .int (zI (((lw n kd P i) : Nat) : Int))), (6, .int (zI (((lw n kd P i) : Nat) : Int))), (0, .ref x), (1, .int (zI ((kd : Nat) : Int))), (2, .int (zI (((btN P 10) : Nat) : Int))), (5, .int (zI ((i : Nat) : Int)))]) hx hb dX3_placeToWatch_50 rfl hl (by decide) rfl (fun ls hl => ?_)
            refine z_iinc (k := 6) (lv' := [(5, .int (zI (((i + 1) : Nat) : Int))), (3, .int (zI ((i : Nat) : Int))), (4, .int (zI (((lw n kd P i) : Nat) : Int))), (6, .int (zI (((lw n kd P i) : Nat) : Int))), (0, .ref x), (1, .int (zI ((kd : Nat) : Int))), (2, .int (zI (((btN P 10) : Nat) : Int)))]) hx hb (((i + 1) : Nat) : Int) (by omega) dX3_placeToWatch_51 hl rfl (by decide) rfl (fun ls hl => ?_)
            refine lv_goto (tgt := 15) hx hb dX3_placeToWatch_54 (by decide) ?_
            exact ih_15 (i + 1) i (lw n kd P i) ot_1 (by omega) (by omega) (by first | exact hy1 | exact hy2) (by first | exact hw1 | exact hw2) _ _ _ hP hD hS (lv_sub hl [4, 5, 6, 1, 2, 0] rfl)
    exact cut_15 (n - 0 + 1) 0 0 11 gt (Nat.lt_succ_self _) (by omega) (by rfl) (by rfl) _ _ _ hP hD hS (lv_sub hl [3, 4, 5, 2, 1, 0] rfl)
  · refine lv_iconst (v := zI (-1)) hx hb dX3_placeToWatch_4 rfl ?_
    rw [← hQf]
    exact z_iret K hS (gt) (by rw [if_pos (by omega)]) hP hD dX3_placeToWatch_5
set_option maxHeartbeats 4000000 in
set_option maxRecDepth 100000 in
theorem c_X3_stepTo (l : Launch) (D : va_G) (cI : ClassId) (x : Nat) (b : Nat → Nat) (ik rr hc : Int) (aN : Nat → Nat) (n k d v : Nat) (g2 : Nat → Int) (μ : Nat → Nat → Nat) (gt : Nat → Int) (p0 : Nat) (δ : Int) (hn : n ≤ 12) (hk : k ≤ 6) (hg2 : ∀ q i, q < k → i < n → g2 (q * 12 + i) = ((μ q i : Nat) : Int)) (hμ : ∀ q i, q < k → i < n → μ q i < n) (hp0 : p0 < n) (hδ : -1 ≤ δ ∧ δ ≤ 12) (hgt : ∀ j, j < n → -1 ≤ gt j ∧ gt j ≤ 12) : zMi l yX3_stepTo cX3_stepTo 4 (some .int) ({ frames := 1, cells := 0, slots := 0, locals := 22 }) D cI [.ref x, .int (zI ((p0 : Nat) : Int)), .int (zI δ)] [cX x b ik rr hc, cT (b 1) aN ((n : Nat) : Int) ((k : Nat) : Int) ((d : Nat) : Int) ((v : Nat) : Int), cR cI (aN 2) 72 g2, cR cI (b 4) 12 gt] (fun (z : Int) (u : Unit) => z = (fsI (fun a => decide (gt (μ a p0) = δ)) k)) (fun (u : Unit) => [cX x b ik rr hc, cT (b 1) aN ((n : Nat) : Int) ((k : Nat) : Int) ((d : Nat) : Int) ((v : Nat) : Int), cR cI (aN 2) 72 g2, cR cI (b 4) 12 gt]) := by
  intro sz
  refine zstart rfl (by decide) (Nat.le_of_ble_eq_true rfl) ?_
  intro p e s m below meth c ls K hnm hsz hP hD hS hl
  generalize hargs : ([.ref x, .int (zI ((p0 : Nat) : Int)), .int (zI δ)] : List Value).toArray = args at K ⊢
  generalize hQf : MQ below _ args s _ _ _ = Qf
  have K : zK p s m args meth c cX3_stepTo 4 RX3 (some .int) D cI := K
  obtain ⟨hx, hb, hml, hown, hts, hE, -, -⟩ := id K
  have hA := zhA (ws0 := [cX x b ik rr hc, cT (b 1) aN ((n : Nat) : Int) ((k : Nat) : Int) ((d : Nat) : Int) ((v : Nat) : Int), cR cI (aN 2) 72 g2, cR cI (b 4) 12 gt]) hsz
  have hl : lv_has ls 4 [(0, .ref x), (1, .int (zI ((p0 : Nat) : Int))), (2, .int (zI δ))] := hl
  refine lv_iconst (v := zI 0) hx hb dX3_stepTo_0 rfl ?_
  refine lv_istore_n (lv' := [(3, .int (zI 0)), (0, .ref x), (1, .int (zI ((p0 : Nat) : Int))), (2, .int (zI δ))]) hx hb dX3_stepTo_1 rfl hl (by decide) rfl (fun ls hl => ?_)
  have cut_2 : ∀ (N_2 : Nat), ∀ (i : Nat), k - i < N_2 → (i ≤ k) → (∀ j, j < i → decide (gt (μ j p0) = δ) = false) → ∀ (H : Heap) (locs : List Loc) (ls : Array Slot), va_P D cls [cX x b ik rr hc, cT (b 1) aN ((n : Nat) : Int) ((k : Nat) : Int) ((d : Nat) : Int) ((v : Nat) : Int), cR cI (aN 2) 72 g2, cR cI (b 4) 12 gt] H → va_D (va_A [cX x b ik rr hc, cT (b 1) aN ((n : Nat) : Int) ((k : Nat) : Int) ((d : Nat) : Int) ((v : Nat) : Int), cR cI (aN 2) 72 g2, cR cI (b 4) 12 gt] sz) [cX x b ik rr hc, cT (b 1) aN ((n : Nat) : Int) ((k : Nat) : Int) ((d : Nat) : Int) ((v : Nat) : Int), cR cI (aN 2) 72 g2, cR cI (b 4) 12 gt] → va_S (va_A [cX x b ik rr hc, cT (b 1) aN ((n : Nat) : Int) ((k : Nat) : Int) ((d : Nat) : Int) ((v : Nat) : Int), cR cI (aN 2) 72 g2, cR cI (b 4) 12 gt] sz) s.heap H locs → lv_has ls 4 [(0, .ref x), (1, .int (zI ((p0 : Nat) : Int))), (2, .int (zI δ)), (3, .int (zI ((i : Nat) : Int)))] → W p l e ({ frames := 1, cells := 0, slots := 0, locals := 22 }) s m args below meth c H locs 0 0 Qf (F0 m 2 ls []) := by
    intro N_2
    induction N_2 with
    | zero => intro i hm_2; exact absurd hm_2 (Nat.not_lt_zero _)
    | succ N_2 ih_2 =>
      intro i hm_2 hi hno H locs ls hP hD hS hl
      refine lv_iload_n hx hb dX3_stepTo_2 rfl (lv_at hl 3 rfl) ?_
      refine lv_aload_n hx hb dX3_stepTo_3 rfl (lv_at hl 0 rfl) ?_
      refine va_get (D := D) (ci := 3) (v := .ref (b 1)) (C := RX3) (T := TX3) (N := 10) hx hb hts inT_X3 hown hE.1 hP 0 rfl rfl 1 (by decide) (hts _ qf_X3_19) (fun _ h9 => h9) rfl dX3_stepTo_4 ?_
      refine va_getN (D := D) (ci := 1) (v := .int (zI ((k : Nat) : Int))) (C := RX1) (T := TX1) (N := 11) hx hb hts inT_X1 hown hE.1 hP 1 rfl rfl 1 (by decide) (va_Nw.use rfl (hE.2 _ nf_X3_73 rfl)) (fun _ h9 => h9) rfl dX3_stepTo_7 ?_
      refine z_icmp_ge (tgt := 39) hx hb (by omega) dX3_stepTo_10 (by decide) (fun c_10 => ?_) (fun c_10 => ?_)
      · refine lv_iconst (v := zI (-1)) hx hb dX3_stepTo_39 rfl ?_
        rw [← hQf]
        exact z_iret K hS () (by unfold fsI; rw [fa_is (m := k) (fun j hj => hno j (by omega)) (Or.inl rfl), if_neg (by omega)]) hP hD dX3_stepTo_40
      · refine lv_aload_n hx hb dX3_stepTo_13 rfl (lv_at hl 0 rfl) ?_
        refine va_get (D := D) (ci := 3) (v := .ref (b 4)) (C := RX3) (T := TX3) (N := 10) hx hb hts inT_X3 hown hE.1 hP 0 rfl rfl 7 (by decide) (hts _ qf_X3_33) (fun _ h9 => h9) rfl dX3_stepTo_14 ?_
        refine lv_aload_n hx hb dX3_stepTo_17 rfl (lv_at hl 0 rfl) ?_
        refine va_get (D := D) (ci := 3) (v := .ref (b 1)) (C := RX3) (T := TX3) (N := 10) hx hb hts inT_X3 hown hE.1 hP 0 rfl rfl 1 (by decide) (hts _ qf_X3_19) (fun _ h9 => h9) rfl dX3_stepTo_18 ?_
        refine lv_iload_n hx hb dX3_stepTo_21 rfl (lv_at hl 3 rfl) ?_
        refine lv_iload_n hx hb dX3_stepTo_22 rfl (lv_at hl 1 rfl) ?_
        have hμi := hμ i p0 (by omega) hp0
        have hgi := hgt _ hμi
        refine zcall_i (wc := [cT (b 1) aN ((n : Nat) : Int) ((k : Nat) : Int) ((d : Nat) : Int) ((v : Nat) : Int), cR cI (aN 2) 72 g2]) (wr := [cX x b ik rr hc, cR cI (b 4) 12 gt]) (rest := [.ref (b 4)]) hE hP hD hS hA [1, 2] [0, 3] [0, 2, 3, 1] rfl rfl (by decide) (by decide) (by decide) (fun (u : Unit) => [cX x b ik rr hc, cT (b 1) aN ((n : Nat) : Int) ((k : Nat) : Int) ((d : Nat) : Int) ((v : Nat) : Int), cR cI (aN 2) 72 g2, cR cI (b 4) 12 gt]) (fun u => rfl) (fun hPc hDc => zrunVN (As := [.int (zI ((i : Nat) : Int)), .int (zI ((p0 : Nat) : Int))]) (rest := [.ref (b 4)]) (q0 := 0) (ci := 1) K k_X1_placeBehind nk_X3_114 ⟨⟨rfl, rfl⟩, ⟨Nat.le_of_ble_eq_true rfl, Nat.le_of_ble_eq_true rfl⟩⟩ rfl rfl hPc hDc (c_X1_placeBehind l D cI (b 1) aN n k d v g2 i p0 ((μ i p0 : Nat) : Int) (by first | assumption | omega) (by first | assumption | omega) (hg2 i p0 (by omega) hp0) _) rfl hl.1 rfl (Nat.le_of_ble_eq_true rfl) dX3_stepTo_23 ⟨Nat.zero_le _, Nat.zero_le _⟩) (by decide) (fun z u H locs hpost hP hD hS => ?_)
        subst hpost
        have hP : va_P D cls [cX x b ik rr hc, cT (b 1) aN ((n : Nat) : Int) ((k : Nat) : Int) ((d : Nat) : Int) ((v : Nat) : Int), cR cI (aN 2) 72 g2, cR cI (b 4) 12 gt] H := hP
        have hD : va_D (va_A [cX x b ik rr hc, cT (b 1) aN ((n : Nat) : Int) ((k : Nat) : Int) ((d : Nat) : Int) ((v : Nat) : Int), cR cI (aN 2) 72 g2, cR cI (b 4) 12 gt] sz) [cX x b ik rr hc, cT (b 1) aN ((n : Nat) : Int) ((k : Nat) : Int) ((d : Nat) : Int) ((v : Nat) : Int), cR cI (aN 2) 72 g2, cR cI (b 4) 12 gt] := hD
        refine W.eq (g2 := F0 m 26 ls [.int (zI ((μ i p0 : Nat) : Int)), .ref (b 4)]) rfl ?_
        refine z_iald hx hb hE hP 3 rfl (μ i p0) (by omega) (by omega) (by first | decide | omega) (gt (μ i p0)) rfl dX3_stepTo_26 ?_
        refine lv_iload_n hx hb dX3_stepTo_27 rfl (lv_at hl 2 rfl) ?_
        refine z_icmp_ne (tgt := 33) hx hb (by omega) dX3_stepTo_28 (by decide) (fun c_28 => ?_) (fun c_28 => ?_)
        · refine z_iinc (k := 3) (lv' := [(3, .int (zI (((i + 1) : Nat) : Int))), (0, .ref x), (1, .int (zI ((p0 : Nat) : Int))), (2, .int (zI δ))]) hx hb (((i + 1) : Nat) : Int) (by omega) dX3_stepTo_33 hl rfl (by decide) rfl (fun ls hl => ?_)
          refine lv_goto (tgt := 2) hx hb dX3_stepTo_36 (by decide) ?_
          exact ih_2 (i + 1) (by omega) (by omega) (by intro j hj; rcases Nat.lt_or_ge j i with h1 | h1; exact hno j h1; rw [show j = i by omega]; simp; omega) _ _ _ hP hD hS (lv_sub hl [1, 2, 3, 0] rfl)
        · refine lv_iload_n hx hb dX3_stepTo_31 rfl (lv_at hl 3 rfl) ?_
          rw [← hQf]
          exact z_iret K hS () (by unfold fsI; rw [fa_is (m := i) hno (Or.inr ⟨by omega, by simp; omega⟩), if_pos (by omega)]) hP hD dX3_stepTo_32
  exact cut_2 (k - 0 + 1) 0 (Nat.lt_succ_self _) (by omega) (by intro j hj; omega) _ _ _ hP hD hS (lv_sub hl [1, 2, 3, 0] rfl)
set_option maxHeartbeats 4000000 in
set_option maxRecDepth 100000 in
theorem c_X3_firstStepNearer (l : Launch) (D : va_G) (cI : ClassId) (x : Nat) (b : Nat → Nat) (ik rr hc : Int) (aN : Nat → Nat) (n k d v : Nat) (g2 : Nat → Int) (μ : Nat → Nat → Nat) (gt : Nat → Int) (p0 : Nat) (hn : n ≤ 12) (hk : k ≤ 6) (hg2 : ∀ q i, q < k → i < n → g2 (q * 12 + i) = ((μ q i : Nat) : Int)) (hμ : ∀ q i, q < k → i < n → μ q i < n) (hp0 : p0 < n) (hgt : ∀ j, j < n → -1 ≤ gt j ∧ gt j ≤ 12) : zMi l yX3_firstStepNearer cX3_firstStepNearer 2 (some .int) ({ frames := 2, cells := 0, slots := 0, locals := 45 }) D cI [.ref x, .int (zI ((p0 : Nat) : Int))] [cX x b ik rr hc, cT (b 1) aN ((n : Nat) : Int) ((k : Nat) : Int) ((d : Nat) : Int) ((v : Nat) : Int), cR cI (aN 2) 72 g2, cR cI (b 4) 12 gt] (fun (z : Int) (u : Unit) => z = (if 0 < gt p0 then fsI (fun a => decide (gt (μ a p0) = gt p0 - 1)) k else -1)) (fun (u : Unit) => [cX x b ik rr hc, cT (b 1) aN ((n : Nat) : Int) ((k : Nat) : Int) ((d : Nat) : Int) ((v : Nat) : Int), cR cI (aN 2) 72 g2, cR cI (b 4) 12 gt]) := by
  intro sz
  refine zstart rfl (by decide) (Nat.le_of_ble_eq_true rfl) ?_
  intro p e s m below meth c ls K hnm hsz hP hD hS hl
  generalize hargs : ([.ref x, .int (zI ((p0 : Nat) : Int))] : List Value).toArray = args at K ⊢
  generalize hQf : MQ below _ args s _ _ _ = Qf
  have K : zK p s m args meth c cX3_firstStepNearer 2 RX3 (some .int) D cI := K
  obtain ⟨hx, hb, hml, hown, hts, hE, -, -⟩ := id K
  have hA := zhA (ws0 := [cX x b ik rr hc, cT (b 1) aN ((n : Nat) : Int) ((k : Nat) : Int) ((d : Nat) : Int) ((v : Nat) : Int), cR cI (aN 2) 72 g2, cR cI (b 4) 12 gt]) hsz
  have hl : lv_has ls 2 [(0, .ref x), (1, .int (zI ((p0 : Nat) : Int)))] := hl
  have hg0 := hgt p0 hp0
  refine lv_aload_n hx hb dX3_firstStepNearer_0 rfl (lv_at hl 0 rfl) ?_
  refine va_get (D := D) (ci := 3) (v := .ref (b 4)) (C := RX3) (T := TX3) (N := 10) hx hb hts inT_X3 hown hE.1 hP 0 rfl rfl 7 (by decide) (hts _ qf_X3_33) (fun _ h9 => h9) rfl dX3_firstStepNearer_1 ?_
  refine lv_iload_n hx hb dX3_firstStepNearer_4 rfl (lv_at hl 1 rfl) ?_
  refine z_iald hx hb hE hP 3 rfl p0 (by omega) (by omega) (by first | decide | omega) (gt p0) rfl dX3_firstStepNearer_5 ?_
  refine z_if_le (tgt := 25) hx hb (by omega) dX3_firstStepNearer_6 (by decide) (fun c_6 => ?_) (fun c_6 => ?_)
  · refine lv_iconst (v := zI (-1)) hx hb dX3_firstStepNearer_25 rfl ?_
    rw [← hQf]
    exact z_iret K hS () (by first | rw [if_pos (by omega)] | rw [if_neg (by omega)]) hP hD dX3_firstStepNearer_26
  · refine lv_aload_n hx hb dX3_firstStepNearer_9 rfl (lv_at hl 0 rfl) ?_
    refine lv_iload_n hx hb dX3_firstStepNearer_10 rfl (lv_at hl 1 rfl) ?_
    refine lv_aload_n hx hb dX3_firstStepNearer_11 rfl (lv_at hl 0 rfl) ?_
    refine va_get (D := D) (ci := 3) (v := .ref (b 4)) (C := RX3) (T := TX3) (N := 10) hx hb hts inT_X3 hown hE.1 hP 0 rfl rfl 7 (by decide) (hts _ qf_X3_33) (fun _ h9 => h9) rfl dX3_firstStepNearer_12 ?_
    refine lv_iload_n hx hb dX3_firstStepNearer_15 rfl (lv_at hl 1 rfl) ?_
    refine z_iald hx hb hE hP 3 rfl p0 (by omega) (by omega) (by first | decide | omega) (gt p0) rfl dX3_firstStepNearer_16 ?_
    refine lv_iconst (v := zI 1) hx hb dX3_firstStepNearer_17 rfl ?_
    refine z_isub hx hb ((gt p0) - 1) rfl dX3_firstStepNearer_18 ?_
    refine zcall_i (wc := [cX x b ik rr hc, cT (b 1) aN ((n : Nat) : Int) ((k : Nat) : Int) ((d : Nat) : Int) ((v : Nat) : Int), cR cI (aN 2) 72 g2, cR cI (b 4) 12 gt]) (wr := []) (rest := []) hE hP hD hS hA [0, 1, 2, 3] [] [0, 1, 2, 3] rfl rfl (by decide) (by decide) (by decide) (fun (u : Unit) => [cX x b ik rr hc, cT (b 1) aN ((n : Nat) : Int) ((k : Nat) : Int) ((d : Nat) : Int) ((v : Nat) : Int), cR cI (aN 2) 72 g2, cR cI (b 4) 12 gt]) (fun u => rfl) (fun hPc hDc => zrunV (As := [.int (zI ((p0 : Nat) : Int)), .int (zI ((gt p0) - 1))]) (rest := []) (q0 := 0) (ci := 3) K k_X3_stepTo qm_X3_284 ⟨⟨rfl, rfl⟩, ⟨Nat.le_of_ble_eq_true rfl, Nat.le_of_ble_eq_true rfl⟩⟩ rfl rfl hPc hDc (c_X3_stepTo l D cI x b ik rr hc aN n k d v g2 μ gt p0 ((gt p0) - 1) (by first | assumption | omega) (by first | assumption | omega) (by first | assumption | omega) (by first | assumption | omega) (by first | assumption | omega) (by first | assumption | omega) (by first | assumption | omega) _) rfl hl.1 rfl (Nat.le_of_ble_eq_true rfl) dX3_firstStepNearer_19 ⟨Nat.zero_le _, Nat.zero_le _⟩) (by decide) (fun z u H locs hpost hP hD hS => ?_)
    subst hpost
    have hP : va_P D cls [cX x b ik rr hc, cT (b 1) aN ((n : Nat) : Int) ((k : Nat) : Int) ((d : Nat) : Int) ((v : Nat) : Int), cR cI (aN 2) 72 g2, cR cI (b 4) 12 gt] H := hP
    have hD : va_D (va_A [cX x b ik rr hc, cT (b 1) aN ((n : Nat) : Int) ((k : Nat) : Int) ((d : Nat) : Int) ((v : Nat) : Int), cR cI (aN 2) 72 g2, cR cI (b 4) 12 gt] sz) [cX x b ik rr hc, cT (b 1) aN ((n : Nat) : Int) ((k : Nat) : Int) ((d : Nat) : Int) ((v : Nat) : Int), cR cI (aN 2) 72 g2, cR cI (b 4) 12 gt] := hD
    refine W.eq (g2 := F0 m 22 ls [.int (zI (fsI (fun a => decide (gt (μ a p0) = ((gt p0) - 1))) k))]) rfl ?_
    refine lv_goto (tgt := 26) hx hb dX3_firstStepNearer_22 (by decide) ?_
    rw [← hQf]
    exact z_iret K hS () (by first | rw [if_pos (by omega)] | rw [if_neg (by omega)]) hP hD dX3_firstStepNearer_26
set_option maxHeartbeats 4000000 in
set_option maxRecDepth 100000 in
theorem c_X3_tellDistancesTo (l : Launch) (D : va_G) (cI : ClassId) (x : Nat) (b : Nat → Nat) (ik rr hc : Int) (aN : Nat → Nat) (n k d v : Nat) (g2 : Nat → Int) (μ : Nat → Nat → Nat) (gt : Nat → Int) (g0 : Nat) (hn : n ≤ 12) (hk : k ≤ 6) (hg2 : ∀ q i, q < k → i < n → g2 (q * 12 + i) = ((μ q i : Nat) : Int)) (hμ : ∀ q i, q < k → i < n → μ q i < n) (hg00 : g0 < n) : zMv l yX3_tellDistancesTo cX3_tellDistancesTo 4 none ({ frames := 2, cells := 0, slots := 0, locals := 45 }) D cI [.ref x, .int (zI ((g0 : Nat) : Int))] [cX x b ik rr hc, cT (b 1) aN ((n : Nat) : Int) ((k : Nat) : Int) ((d : Nat) : Int) ((v : Nat) : Int), cR cI (aN 2) 72 g2, cR cI (b 4) 12 gt] (fun (u : (Nat → Int)) => ∀ j, j < n → u j = dT μ k g0 (n - 1) j) (fun (u : (Nat → Int)) => [cX x b ik rr hc, cT (b 1) aN ((n : Nat) : Int) ((k : Nat) : Int) ((d : Nat) : Int) ((v : Nat) : Int), cR cI (aN 2) 72 g2, cR cI (b 4) 12 u]) := by
  intro sz
  refine zstart rfl (by decide) (Nat.le_of_ble_eq_true rfl) ?_
  intro p e s m below meth c ls K hnm hsz hP hD hS hl
  generalize hargs : ([.ref x, .int (zI ((g0 : Nat) : Int))] : List Value).toArray = args at K ⊢
  generalize hQf : MQ below _ args s _ _ _ = Qf
  have K : zK p s m args meth c cX3_tellDistancesTo 4 RX3 none D cI := K
  obtain ⟨hx, hb, hml, hown, hts, hE, -, -⟩ := id K
  have hA := zhA (ws0 := [cX x b ik rr hc, cT (b 1) aN ((n : Nat) : Int) ((k : Nat) : Int) ((d : Nat) : Int) ((v : Nat) : Int), cR cI (aN 2) 72 g2, cR cI (b 4) 12 gt]) hsz
  have hl : lv_has ls 4 [(0, .ref x), (1, .int (zI ((g0 : Nat) : Int)))] := hl
  refine lv_aload_n hx hb dX3_tellDistancesTo_0 rfl (lv_at hl 0 rfl) ?_
  refine va_get (D := D) (ci := 3) (v := .ref (b 4)) (C := RX3) (T := TX3) (N := 10) hx hb hts inT_X3 hown hE.1 hP 0 rfl rfl 7 (by decide) (hts _ qf_X3_33) (fun _ h9 => h9) rfl dX3_tellDistancesTo_1 ?_
  refine lv_iconst (v := zI (-1)) hx hb dX3_tellDistancesTo_4 rfl ?_
  refine zcall_v (wc := [cR cI (b 4) 12 gt]) (wr := [cX x b ik rr hc, cT (b 1) aN ((n : Nat) : Int) ((k : Nat) : Int) ((d : Nat) : Int) ((v : Nat) : Int), cR cI (aN 2) 72 g2]) (rest := []) hE hP hD hS hA [3] [0, 1, 2] [0, 1, 2, 3] rfl rfl (by decide) (by decide) (by decide) (fun (u : Unit) => [cX x b ik rr hc, cT (b 1) aN ((n : Nat) : Int) ((k : Nat) : Int) ((d : Nat) : Int) ((v : Nat) : Int), cR cI (aN 2) 72 g2, cR cI (b 4) 12 (zcp (fun _ => (-1)) gt 12)]) (fun u => rfl) (fun hPc hDc => zrunS (As := [.ref (b 4), .int (zI (-1))]) (rest := []) K k_J7_fill_53178 qm_X3_270 ⟨⟨rfl, rfl⟩, ⟨Nat.le_of_ble_eq_true rfl, Nat.le_of_ble_eq_true rfl⟩⟩ hPc hDc (c_J7_fill_53178 l D cI (b 4) 12 (-1) gt (by first | assumption | omega) _) rfl hl.1 rfl (Nat.le_of_ble_eq_true rfl) dX3_tellDistancesTo_5 ⟨Nat.zero_le _, Nat.zero_le _⟩) (by decide) (fun u H locs hpost hP hD hS => ?_)
  have hP : va_P D cls [cX x b ik rr hc, cT (b 1) aN ((n : Nat) : Int) ((k : Nat) : Int) ((d : Nat) : Int) ((v : Nat) : Int), cR cI (aN 2) 72 g2, cR cI (b 4) 12 (zcp (fun _ => (-1)) gt 12)] H := hP
  have hD : va_D (va_A [cX x b ik rr hc, cT (b 1) aN ((n : Nat) : Int) ((k : Nat) : Int) ((d : Nat) : Int) ((v : Nat) : Int), cR cI (aN 2) 72 g2, cR cI (b 4) 12 gt] sz) [cX x b ik rr hc, cT (b 1) aN ((n : Nat) : Int) ((k : Nat) : Int) ((d : Nat) : Int) ((v : Nat) : Int), cR cI (aN 2) 72 g2, cR cI (b 4) 12 (zcp (fun _ => (-1)) gt 12)] := hD
  refine lv_aload_n hx hb dX3_tellDistancesTo_8 rfl (lv_at hl 0 rfl) ?_
  refine va_get (D := D) (ci := 3) (v := .ref (b 4)) (C := RX3) (T := TX3) (N := 10) hx hb hts inT_X3 hown hE.1 hP 0 rfl rfl 7 (by decide) (hts _ qf_X3_33) (fun _ h9 => h9) rfl dX3_tellDistancesTo_9 ?_
  refine lv_iload_n hx hb dX3_tellDistancesTo_12 rfl (lv_at hl 1 rfl) ?_
  refine lv_iconst (v := zI 0) hx hb dX3_tellDistancesTo_13 rfl ?_
  refine z_iast hx hb hE hP hD hS 3 rfl g0 (by omega) (by omega) (by first | decide | omega) (zup (zcp (fun _ => (-1)) gt 12) g0 0) rfl dX3_tellDistancesTo_14 (fun H locs hP hD hS => ?_)
  have hP : va_P D cls [cX x b ik rr hc, cT (b 1) aN ((n : Nat) : Int) ((k : Nat) : Int) ((d : Nat) : Int) ((v : Nat) : Int), cR cI (aN 2) 72 g2, cR cI (b 4) 12 (zup (zcp (fun _ => (-1)) gt 12) g0 0)] H := hP
  have hD : va_D (va_A [cX x b ik rr hc, cT (b 1) aN ((n : Nat) : Int) ((k : Nat) : Int) ((d : Nat) : Int) ((v : Nat) : Int), cR cI (aN 2) 72 g2, cR cI (b 4) 12 gt] sz) [cX x b ik rr hc, cT (b 1) aN ((n : Nat) : Int) ((k : Nat) : Int) ((d : Nat) : Int) ((v : Nat) : Int), cR cI (aN 2) 72 g2, cR cI (b 4) 12 (zup (zcp (fun _ => (-1)) gt 12) g0 0)] := hD
  refine lv_iconst (v := zI 1) hx hb dX3_tellDistancesTo_15 rfl ?_
  refine lv_istore_n (lv' := [(2, .int (zI 1)), (0, .ref x), (1, .int (zI ((g0 : Nat) : Int)))]) hx hb dX3_tellDistancesTo_16 rfl hl (by decide) rfl (fun ls hl => ?_)
  have cut_17 : ∀ (N_17 : Nat), ∀ (d0 : Nat) (q : Nat → Int), n - d0 < N_17 → (d0 + 1 ≤ n) → (∀ j, j < n → q j = dT μ k g0 d0 j) → ∀ (H : Heap) (locs : List Loc) (ls : Array Slot), va_P D cls [cX x b ik rr hc, cT (b 1) aN ((n : Nat) : Int) ((k : Nat) : Int) ((d : Nat) : Int) ((v : Nat) : Int), cR cI (aN 2) 72 g2, cR cI (b 4) 12 q] H → va_D (va_A [cX x b ik rr hc, cT (b 1) aN ((n : Nat) : Int) ((k : Nat) : Int) ((d : Nat) : Int) ((v : Nat) : Int), cR cI (aN 2) 72 g2, cR cI (b 4) 12 gt] sz) [cX x b ik rr hc, cT (b 1) aN ((n : Nat) : Int) ((k : Nat) : Int) ((d : Nat) : Int) ((v : Nat) : Int), cR cI (aN 2) 72 g2, cR cI (b 4) 12 q] → va_S (va_A [cX x b ik rr hc, cT (b 1) aN ((n : Nat) : Int) ((k : Nat) : Int) ((d : Nat) : Int) ((v : Nat) : Int), cR cI (aN 2) 72 g2, cR cI (b 4) 12 gt] sz) s.heap H locs → lv_has ls 4 [(0, .ref x), (1, .int (zI ((g0 : Nat) : Int))), (2, .int (zI (((d0 + 1) : Nat) : Int)))] → W p l e ({ frames := 2, cells := 0, slots := 0, locals := 45 }) s m args below meth c H locs 0 0 Qf (F0 m 17 ls []) := by
    intro N_17
    induction N_17 with
    | zero => intro d0 q hm_17; exact absurd hm_17 (Nat.not_lt_zero _)
    | succ N_17 ih_17 =>
      intro d0 q hm_17 hd0 hq H locs ls hP hD hS hl
      refine lv_iload_n hx hb dX3_tellDistancesTo_17 rfl (lv_at hl 2 rfl) ?_
      refine lv_aload_n hx hb dX3_tellDistancesTo_18 rfl (lv_at hl 0 rfl) ?_
      refine va_get (D := D) (ci := 3) (v := .ref (b 1)) (C := RX3) (T := TX3) (N := 10) hx hb hts inT_X3 hown hE.1 hP 0 rfl rfl 1 (by decide) (hts _ qf_X3_19) (fun _ h9 => h9) rfl dX3_tellDistancesTo_19 ?_
      refine va_getN (D := D) (ci := 1) (v := .int (zI ((n : Nat) : Int))) (C := RX1) (T := TX1) (N := 11) hx hb hts inT_X1 hown hE.1 hP 1 rfl rfl 0 (by decide) (va_Nw.use rfl (hE.2 _ nf_X3_201 rfl)) (fun _ h9 => h9) rfl dX3_tellDistancesTo_22 ?_
      refine z_icmp_ge (tgt := 82) hx hb (by omega) dX3_tellDistancesTo_25 (by decide) (fun c_25 => ?_) (fun c_25 => ?_)
      · rw [← hQf]
        exact z_vret K hS (q) (by intro j hj; rw [hq j hj, show n - 1 = d0 by omega]) hP hD dX3_tellDistancesTo_82
      · refine lv_iconst (v := zI 0) hx hb dX3_tellDistancesTo_28 rfl ?_
        refine lv_istore_n (lv' := [(3, .int (zI 0)), (0, .ref x), (1, .int (zI ((g0 : Nat) : Int))), (2, .int (zI (((d0 + 1) : Nat) : Int)))]) hx hb dX3_tellDistancesTo_29 rfl hl (by decide) rfl (fun ls hl => ?_)
        have cut_30 : ∀ (N_30 : Nat), ∀ (i : Nat) (r : Nat → Int), n - i < N_30 → (i ≤ n) → (∀ j, j < n → r j = if j < i then dT μ k g0 (d0 + 1) j else dT μ k g0 d0 j) → ∀ (H : Heap) (locs : List Loc) (ls : Array Slot), va_P D cls [cX x b ik rr hc, cT (b 1) aN ((n : Nat) : Int) ((k : Nat) : Int) ((d : Nat) : Int) ((v : Nat) : Int), cR cI (aN 2) 72 g2, cR cI (b 4) 12 r] H → va_D (va_A [cX x b ik rr hc, cT (b 1) aN ((n : Nat) : Int) ((k : Nat) : Int) ((d : Nat) : Int) ((v : Nat) : Int), cR cI (aN 2) 72 g2, cR cI (b 4) 12 gt] sz) [cX x b ik rr hc, cT (b 1) aN ((n : Nat) : Int) ((k : Nat) : Int) ((d : Nat) : Int) ((v : Nat) : Int), cR cI (aN 2) 72 g2, cR cI (b 4) 12 r] → va_S (va_A [cX x b ik rr hc, cT (b 1) aN ((n : Nat) : Int) ((k : Nat) : Int) ((d : Nat) : Int) ((v : Nat) : Int), cR cI (aN 2) 72 g2, cR cI (b 4) 12 gt] sz) s.heap H locs → lv_has ls 4 [(0, .ref x), (1, .int (zI ((g0 : Nat) : Int))), (2, .int (zI (((d0 + 1) : Nat) : Int))), (3, .int (zI ((i : Nat) : Int)))] → W p l e ({ frames := 2, cells := 0, slots := 0, locals := 45 }) s m args below meth c H locs 0 0 Qf (F0 m 30 ls []) := by
          intro N_30
          induction N_30 with
          | zero => intro i r hm_30; exact absurd hm_30 (Nat.not_lt_zero _)
          | succ N_30 ih_30 =>
            intro i r hm_30 hi hr H locs ls hP hD hS hl
            refine lv_iload_n hx hb dX3_tellDistancesTo_30 rfl (lv_at hl 3 rfl) ?_
            refine lv_aload_n hx hb dX3_tellDistancesTo_31 rfl (lv_at hl 0 rfl) ?_
            refine va_get (D := D) (ci := 3) (v := .ref (b 1)) (C := RX3) (T := TX3) (N := 10) hx hb hts inT_X3 hown hE.1 hP 0 rfl rfl 1 (by decide) (hts _ qf_X3_19) (fun _ h9 => h9) rfl dX3_tellDistancesTo_32 ?_
            refine va_getN (D := D) (ci := 1) (v := .int (zI ((n : Nat) : Int))) (C := RX1) (T := TX1) (N := 11) hx hb hts inT_X1 hown hE.1 hP 1 rfl rfl 0 (by decide) (va_Nw.use rfl (hE.2 _ nf_X3_201 rfl)) (fun _ h9 => h9) rfl dX3_tellDistancesTo_35 ?_
            refine z_icmp_ge (tgt := 76) hx hb (by omega) dX3_tellDistancesTo_38 (by decide) (fun c_38 => ?_) (fun c_38 => ?_)
            · refine z_iinc (k := 2) (lv' := [(2, .int (zI (((d0 + 2) : Nat) : Int))), (0, .ref x), (1, .int (zI ((g0 : Nat) : Int))), (3, .int (zI ((i : Nat) : Int)))]) hx hb (((d0 + 2) : Nat) : Int) (by omega) dX3_tellDistancesTo_76 hl rfl (by decide) rfl (fun ls hl => ?_)
              refine lv_goto (tgt := 17) hx hb dX3_tellDistancesTo_79 (by decide) ?_
              exact ih_17 (d0 + 1) r (by omega) (by omega) (by intro j hj; rw [hr j hj, if_pos (by omega)]) _ _ _ hP hD hS (lv_sub hl [1, 2, 0] rfl)
            · refine lv_aload_n hx hb dX3_tellDistancesTo_41 rfl (lv_at hl 0 rfl) ?_
              refine va_get (D := D) (ci := 3) (v := .ref (b 4)) (C := RX3) (T := TX3) (N := 10) hx hb hts inT_X3 hown hE.1 hP 0 rfl rfl 7 (by decide) (hts _ qf_X3_33) (fun _ h9 => h9) rfl dX3_tellDistancesTo_42 ?_
              refine lv_iload_n hx hb dX3_tellDistancesTo_45 rfl (lv_at hl 3 rfl) ?_
              have hdi := dT_r μ k g0 d0 i
              have hrr : ∀ j, j < n → -1 ≤ r j ∧ r j ≤ 12 := by
                intro j hj
                have h1 := dT_r μ k g0 d0 j
                have h2 := dT_r μ k g0 (d0 + 1) j
                rw [hr j hj]; split <;> omega
              have hre : ∀ j, j < n → (r j = (d0 : Int) ↔ dT μ k g0 d0 j = (d0 : Int)) := by
                intro j hj
                rw [hr j hj]; split
                · exact dT_same μ k g0 d0 j
                · exact Iff.rfl
              have hfs : fsI (fun a => decide (r (μ a i) = (d0 : Int))) k = fsI (fun a => decide (dT μ k g0 d0 (μ a i) = (d0 : Int))) k := fsI_cong (fun a ha => by simp [hre _ (hμ a i ha (by omega))])
              have hst : ∀ (y : Int) (q9 : Nat → Int), (y = dT μ k g0 (d0 + 1) i) → (∀ j, j < n → q9 j = if j = i then y else r j) → ∀ j, j < n → q9 j = if j < i + 1 then dT μ k g0 (d0 + 1) j else dT μ k g0 d0 j := by
                intro y q9 hy h9 j hj
                rw [h9 j hj]
                by_cases h8 : j = i
                · rw [if_pos h8, if_pos (by omega), hy, h8]
                · rw [if_neg h8, hr j hj]
                  by_cases h7 : j < i
                  · rw [if_pos h7, if_pos (by omega)]
                  · rw [if_neg h7, if_neg (by omega)]
              have hri : r i = dT μ k g0 d0 i := by rw [hr i (by omega), if_neg (by omega)]
              refine z_iald hx hb hE hP 3 rfl i (by omega) (by omega) (by first | decide | omega) (dT μ k g0 d0 i) (by rw [hr i (by omega), if_neg (by omega)]) dX3_tellDistancesTo_46 ?_
              refine lv_iconst (v := zI (-1)) hx hb dX3_tellDistancesTo_47 rfl ?_
              refine z_icmp_ne (tgt := 70) hx hb (by omega) dX3_tellDistancesTo_48 (by decide) (fun c_48 => ?_) (fun c_48 => ?_)
              · have hr1 := hst (r i) r (by rw [dT_f (Or.inl (by omega))]; exact hri) (fun j hj => by split; rename_i h9; rw [h9]; rfl)
                refine z_iinc (k := 3) (lv' := [(3, .int (zI (((i + 1) : Nat) : Int))), (0, .ref x), (1, .int (zI ((g0 : Nat) : Int))), (2, .int (zI (((d0 + 1) : Nat) : Int)))]) hx hb (((i + 1) : Nat) : Int) (by omega) dX3_tellDistancesTo_70 hl rfl (by decide) rfl (fun ls hl => ?_)
                refine lv_goto (tgt := 30) hx hb dX3_tellDistancesTo_73 (by decide) ?_
                exact ih_30 (i + 1) r (by omega) (by omega) (by first | exact hr1 | exact hr2 | exact hr3) _ _ _ hP hD hS (lv_sub hl [1, 2, 3, 0] rfl)
              · refine lv_aload_n hx hb dX3_tellDistancesTo_51 rfl (lv_at hl 0 rfl) ?_
                refine lv_iload_n hx hb dX3_tellDistancesTo_52 rfl (lv_at hl 3 rfl) ?_
                refine lv_iload_n hx hb dX3_tellDistancesTo_53 rfl (lv_at hl 2 rfl) ?_
                refine lv_iconst (v := zI 1) hx hb dX3_tellDistancesTo_54 rfl ?_
                refine z_isub hx hb ((d0 : Nat) : Int) (by omega) dX3_tellDistancesTo_55 ?_
                refine zcall_i (wc := [cX x b ik rr hc, cT (b 1) aN ((n : Nat) : Int) ((k : Nat) : Int) ((d : Nat) : Int) ((v : Nat) : Int), cR cI (aN 2) 72 g2, cR cI (b 4) 12 r]) (wr := []) (rest := []) hE hP hD hS hA [0, 1, 2, 3] [] [0, 1, 2, 3] rfl rfl (by decide) (by decide) (by decide) (fun (u : Unit) => [cX x b ik rr hc, cT (b 1) aN ((n : Nat) : Int) ((k : Nat) : Int) ((d : Nat) : Int) ((v : Nat) : Int), cR cI (aN 2) 72 g2, cR cI (b 4) 12 r]) (fun u => rfl) (fun hPc hDc => zrunV (As := [.int (zI ((i : Nat) : Int)), .int (zI ((d0 : Nat) : Int))]) (rest := []) (q0 := 0) (ci := 3) K k_X3_stepTo qm_X3_284 ⟨⟨rfl, rfl⟩, ⟨Nat.le_of_ble_eq_true rfl, Nat.le_of_ble_eq_true rfl⟩⟩ rfl rfl hPc hDc (c_X3_stepTo l D cI x b ik rr hc aN n k d v g2 μ r i ((d0 : Nat) : Int) (by first | assumption | omega) (by first | assumption | omega) (by first | assumption | omega) (by first | assumption | omega) (by first | assumption | omega) (by first | assumption | omega) (by first | assumption | omega) _) rfl hl.1 rfl (Nat.le_of_ble_eq_true rfl) dX3_tellDistancesTo_56 ⟨Nat.zero_le _, Nat.zero_le _⟩) (by decide) (fun z u H locs hpost hP hD hS => ?_)
                subst hpost
                have hP : va_P D cls [cX x b ik rr hc, cT (b 1) aN ((n : Nat) : Int) ((k : Nat) : Int) ((d : Nat) : Int) ((v : Nat) : Int), cR cI (aN 2) 72 g2, cR cI (b 4) 12 r] H := hP
                have hD : va_D (va_A [cX x b ik rr hc, cT (b 1) aN ((n : Nat) : Int) ((k : Nat) : Int) ((d : Nat) : Int) ((v : Nat) : Int), cR cI (aN 2) 72 g2, cR cI (b 4) 12 gt] sz) [cX x b ik rr hc, cT (b 1) aN ((n : Nat) : Int) ((k : Nat) : Int) ((d : Nat) : Int) ((v : Nat) : Int), cR cI (aN 2) 72 g2, cR cI (b 4) 12 r] := hD
                refine W.eq (g2 := F0 m 59 ls [.int (zI (fsI (fun a => decide (r (μ a i) = ((d0 : Nat) : Int))) k))]) rfl ?_
                refine lv_iconst (v := zI (-1)) hx hb dX3_tellDistancesTo_59 rfl ?_
                refine z_icmp_eq (tgt := 70) hx hb (by have := fsI_r (fun a => decide (r (μ a i) = (d0 : Int))) hk; omega) dX3_tellDistancesTo_60 (by decide) (fun c_60 => ?_) (fun c_60 => ?_)
                · have hr2 := hst (r i) r (by rw [dT_f (Or.inr (by rw [← hfs]; exact c_60))]; exact hri) (fun j hj => by split; rename_i h9; rw [h9]; rfl)
                  refine z_iinc (k := 3) (lv' := [(3, .int (zI (((i + 1) : Nat) : Int))), (0, .ref x), (1, .int (zI ((g0 : Nat) : Int))), (2, .int (zI (((d0 + 1) : Nat) : Int)))]) hx hb (((i + 1) : Nat) : Int) (by omega) dX3_tellDistancesTo_70 hl rfl (by decide) rfl (fun ls hl => ?_)
                  refine lv_goto (tgt := 30) hx hb dX3_tellDistancesTo_73 (by decide) ?_
                  exact ih_30 (i + 1) r (by omega) (by omega) (by first | exact hr1 | exact hr2 | exact hr3) _ _ _ hP hD hS (lv_sub hl [1, 2, 3, 0] rfl)
                · have hr3 := hst ((d0 + 1 : Nat) : Int) (zup r i ((d0 + 1 : Nat) : Int)) (by rw [dT_t (by omega) (by rw [← hfs]; exact c_60)]; omega) (fun j hj => by unfold zup; rfl)
                  refine lv_aload_n hx hb dX3_tellDistancesTo_63 rfl (lv_at hl 0 rfl) ?_
                  refine va_get (D := D) (ci := 3) (v := .ref (b 4)) (C := RX3) (T := TX3) (N := 10) hx hb hts inT_X3 hown hE.1 hP 0 rfl rfl 7 (by decide) (hts _ qf_X3_33) (fun _ h9 => h9) rfl dX3_tellDistancesTo_64 ?_
                  refine lv_iload_n hx hb dX3_tellDistancesTo_67 rfl (lv_at hl 3 rfl) ?_
                  refine lv_iload_n hx hb dX3_tellDistancesTo_68 rfl (lv_at hl 2 rfl) ?_
                  refine z_iast hx hb hE hP hD hS 3 rfl i (by omega) (by omega) (by first | decide | omega) (zup r i (((d0 + 1) : Nat) : Int)) rfl dX3_tellDistancesTo_69 (fun H locs hP hD hS => ?_)
                  have hP : va_P D cls [cX x b ik rr hc, cT (b 1) aN ((n : Nat) : Int) ((k : Nat) : Int) ((d : Nat) : Int) ((v : Nat) : Int), cR cI (aN 2) 72 g2, cR cI (b 4) 12 (zup r i (((d0 + 1) : Nat) : Int))] H := hP
                  have hD : va_D (va_A [cX x b ik rr hc, cT (b 1) aN ((n : Nat) : Int) ((k : Nat) : Int) ((d : Nat) : Int) ((v : Nat) : Int), cR cI (aN 2) 72 g2, cR cI (b 4) 12 gt] sz) [cX x b ik rr hc, cT (b 1) aN ((n : Nat) : Int) ((k : Nat) : Int) ((d : Nat) : Int) ((v : Nat) : Int), cR cI (aN 2) 72 g2, cR cI (b 4) 12 (zup r i (((d0 + 1) : Nat) : Int))] := hD
                  refine z_iinc (k := 3) (lv' := [(3, .int (zI (((i + 1) : Nat) : Int))), (0, .ref x), (1, .int (zI ((g0 : Nat) : Int))), (2, .int (zI (((d0 + 1) : Nat) : Int)))]) hx hb (((i + 1) : Nat) : Int) (by omega) dX3_tellDistancesTo_70 hl rfl (by decide) rfl (fun ls hl => ?_)
                  refine lv_goto (tgt := 30) hx hb dX3_tellDistancesTo_73 (by decide) ?_
                  exact ih_30 (i + 1) (zup r i (((d0 + 1) : Nat) : Int)) (by omega) (by omega) (by first | exact hr1 | exact hr2 | exact hr3) _ _ _ hP hD hS (lv_sub hl [1, 2, 3, 0] rfl)
        exact cut_30 (n - 0 + 1) 0 q (Nat.lt_succ_self _) (by omega) (by intro j hj; rw [if_neg (by omega)]; exact hq j hj) _ _ _ hP hD hS (lv_sub hl [1, 2, 3, 0] rfl)
  exact cut_17 (n - 0 + 1) 0 (zup (zcp (fun _ => (-1)) gt 12) g0 0) (Nat.lt_succ_self _) (by omega) (by intro j hj; rw [dT]; by_cases h9 : j = g0; rw [h9, zup_s, if_pos rfl]; rw [zup_n h9, if_neg h9]; exact zcp_lt (by omega)) _ _ _ hP hD hS (lv_sub hl [1, 2, 0] rfl)
set_option maxHeartbeats 4000000 in
set_option maxRecDepth 100000 in
theorem c_X3_pathLeadsHome (l : Launch) (D : va_G) (cI : ClassId) (x : Nat) (b : Nat → Nat) (ik rr hc : Int) (aN : Nat → Nat) (n k d v : Nat) (g2 : Nat → Int) (μ : Nat → Nat → Nat) (g3 gp : Nat → Int) (π δ : Nat → Nat) (L : Nat) (hn : n ≤ 12) (hk : k ≤ 6) (hg2 : ∀ q i, q < k → i < n → g2 (q * 12 + i) = ((μ q i : Nat) : Int)) (hμ : ∀ q i, q < k → i < n → μ q i < n) (hg3 : ∀ j, j < n → g3 j = ((π j : Nat) : Int)) (hπ : ∀ j, j < n → π j < n) (hL : L ≤ 4) (hgp : ∀ j, j < L → gp j = ((δ j : Nat) : Int)) (hδ : ∀ j, j < L → δ j < k) : zMi l yX3_pathLeadsHome cX3_pathLeadsHome 5 (some .boolean) ({ frames := 1, cells := 0, slots := 0, locals := 22 }) D cI [.ref x, .int (zI ((L : Nat) : Int))] [cX x b ik rr hc, cT (b 1) aN ((n : Nat) : Int) ((k : Nat) : Int) ((d : Nat) : Int) ((v : Nat) : Int), cR cI (aN 2) 72 g2, cR cI (aN 3) 12 g3, cR cI (b 6) 4 gp] (fun (z : Int) (u : Unit) => z = (b01 (homB μ δ π L n = true))) (fun (u : Unit) => [cX x b ik rr hc, cT (b 1) aN ((n : Nat) : Int) ((k : Nat) : Int) ((d : Nat) : Int) ((v : Nat) : Int), cR cI (aN 2) 72 g2, cR cI (aN 3) 12 g3, cR cI (b 6) 4 gp]) := by
  intro sz
  refine zstart rfl (by decide) (Nat.le_of_ble_eq_true rfl) ?_
  intro p e s m below meth c ls K hnm hsz hP hD hS hl
  generalize hargs : ([.ref x, .int (zI ((L : Nat) : Int))] : List Value).toArray = args at K ⊢
  generalize hQf : MQ below _ args s _ _ _ = Qf
  have K : zK p s m args meth c cX3_pathLeadsHome 5 RX3 (some .boolean) D cI := K
  obtain ⟨hx, hb, hml, hown, hts, hE, -, -⟩ := id K
  have hA := zhA (ws0 := [cX x b ik rr hc, cT (b 1) aN ((n : Nat) : Int) ((k : Nat) : Int) ((d : Nat) : Int) ((v : Nat) : Int), cR cI (aN 2) 72 g2, cR cI (aN 3) 12 g3, cR cI (b 6) 4 gp]) hsz
  have hl : lv_has ls 5 [(0, .ref x), (1, .int (zI ((L : Nat) : Int)))] := hl
  refine lv_iconst (v := zI 0) hx hb dX3_pathLeadsHome_0 rfl ?_
  refine lv_istore_n (lv' := [(2, .int (zI 0)), (0, .ref x), (1, .int (zI ((L : Nat) : Int)))]) hx hb dX3_pathLeadsHome_1 rfl hl (by decide) rfl (fun ls hl => ?_)
  have cut_2 : ∀ (N_2 : Nat), ∀ (i : Nat), n - i < N_2 → (i ≤ n) → (∀ j, j < i → pth μ δ L j = π j) → ∀ (H : Heap) (locs : List Loc) (ls : Array Slot), va_P D cls [cX x b ik rr hc, cT (b 1) aN ((n : Nat) : Int) ((k : Nat) : Int) ((d : Nat) : Int) ((v : Nat) : Int), cR cI (aN 2) 72 g2, cR cI (aN 3) 12 g3, cR cI (b 6) 4 gp] H → va_D (va_A [cX x b ik rr hc, cT (b 1) aN ((n : Nat) : Int) ((k : Nat) : Int) ((d : Nat) : Int) ((v : Nat) : Int), cR cI (aN 2) 72 g2, cR cI (aN 3) 12 g3, cR cI (b 6) 4 gp] sz) [cX x b ik rr hc, cT (b 1) aN ((n : Nat) : Int) ((k : Nat) : Int) ((d : Nat) : Int) ((v : Nat) : Int), cR cI (aN 2) 72 g2, cR cI (aN 3) 12 g3, cR cI (b 6) 4 gp] → va_S (va_A [cX x b ik rr hc, cT (b 1) aN ((n : Nat) : Int) ((k : Nat) : Int) ((d : Nat) : Int) ((v : Nat) : Int), cR cI (aN 2) 72 g2, cR cI (aN 3) 12 g3, cR cI (b 6) 4 gp] sz) s.heap H locs → lv_has ls 5 [(0, .ref x), (1, .int (zI ((L : Nat) : Int))), (2, .int (zI ((i : Nat) : Int)))] → W p l e ({ frames := 1, cells := 0, slots := 0, locals := 22 }) s m args below meth c H locs 0 0 Qf (F0 m 2 ls []) := by
    intro N_2
    induction N_2 with
    | zero => intro i hm_2; exact absurd hm_2 (Nat.not_lt_zero _)
    | succ N_2 ih_2 =>
      intro i hm_2 hi hno H locs ls hP hD hS hl
      refine lv_iload_n hx hb dX3_pathLeadsHome_2 rfl (lv_at hl 2 rfl) ?_
      refine lv_aload_n hx hb dX3_pathLeadsHome_3 rfl (lv_at hl 0 rfl) ?_
      refine va_get (D := D) (ci := 3) (v := .ref (b 1)) (C := RX3) (T := TX3) (N := 10) hx hb hts inT_X3 hown hE.1 hP 0 rfl rfl 1 (by decide) (hts _ qf_X3_19) (fun _ h9 => h9) rfl dX3_pathLeadsHome_4 ?_
      refine va_getN (D := D) (ci := 1) (v := .int (zI ((n : Nat) : Int))) (C := RX1) (T := TX1) (N := 11) hx hb hts inT_X1 hown hE.1 hP 1 rfl rfl 0 (by decide) (va_Nw.use rfl (hE.2 _ nf_X3_201 rfl)) (fun _ h9 => h9) rfl dX3_pathLeadsHome_7 ?_
      refine z_icmp_ge (tgt := 67) hx hb (by omega) dX3_pathLeadsHome_10 (by decide) (fun c_10 => ?_) (fun c_10 => ?_)
      · refine lv_iconst (v := zI 1) hx hb dX3_pathLeadsHome_67 rfl ?_
        rw [← hQf]
        exact z_bret K hS () (by exact (b01_t (by simp only [homB, decide_eq_true_eq]; intro j hj; exact hno j (by omega))).symm) (by omega) hP hD dX3_pathLeadsHome_68
      · refine lv_iload_n hx hb dX3_pathLeadsHome_13 rfl (lv_at hl 2 rfl) ?_
        refine lv_istore_n (lv' := [(3, .int (zI ((i : Nat) : Int))), (0, .ref x), (1, .int (zI ((L : Nat) : Int))), (2, .int (zI ((i : Nat) : Int)))]) hx hb dX3_pathLeadsHome_14 rfl hl (by decide) rfl (fun ls hl => ?_)
        refine lv_iconst (v := zI 0) hx hb dX3_pathLeadsHome_15 rfl ?_
        refine lv_istore (lv' := [(4, .int (zI 0)), (3, .int (zI ((i : Nat) : Int))), (0, .ref x), (1, .int (zI ((L : Nat) : Int))), (2, .int (zI ((i : Nat) : Int)))]) hx hb dX3_pathLeadsHome_16 hl (by decide) rfl (fun ls hl => ?_)
        have cut_18 : ∀ (N_18 : Nat), ∀ (i1 r : Nat), L - i1 < N_18 → (i1 ≤ L) → (r = pth μ δ i1 i) → (r < n) → ∀ (H : Heap) (locs : List Loc) (ls : Array Slot), va_P D cls [cX x b ik rr hc, cT (b 1) aN ((n : Nat) : Int) ((k : Nat) : Int) ((d : Nat) : Int) ((v : Nat) : Int), cR cI (aN 2) 72 g2, cR cI (aN 3) 12 g3, cR cI (b 6) 4 gp] H → va_D (va_A [cX x b ik rr hc, cT (b 1) aN ((n : Nat) : Int) ((k : Nat) : Int) ((d : Nat) : Int) ((v : Nat) : Int), cR cI (aN 2) 72 g2, cR cI (aN 3) 12 g3, cR cI (b 6) 4 gp] sz) [cX x b ik rr hc, cT (b 1) aN ((n : Nat) : Int) ((k : Nat) : Int) ((d : Nat) : Int) ((v : Nat) : Int), cR cI (aN 2) 72 g2, cR cI (aN 3) 12 g3, cR cI (b 6) 4 gp] → va_S (va_A [cX x b ik rr hc, cT (b 1) aN ((n : Nat) : Int) ((k : Nat) : Int) ((d : Nat) : Int) ((v : Nat) : Int), cR cI (aN 2) 72 g2, cR cI (aN 3) 12 g3, cR cI (b 6) 4 gp] sz) s.heap H locs → lv_has ls 5 [(0, .ref x), (1, .int (zI ((L : Nat) : Int))), (2, .int (zI ((i : Nat) : Int))), (3, .int (zI ((r : Nat) : Int))), (4, .int (zI ((i1 : Nat) : Int)))] → W p l e ({ frames := 1, cells := 0, slots := 0, locals := 22 }) s m args below meth c H locs 0 0 Qf (F0 m 18 ls []) := by
          intro N_18
          induction N_18 with
          | zero => intro i1 r hm_18; exact absurd hm_18 (Nat.not_lt_zero _)
          | succ N_18 ih_18 =>
            intro i1 r hm_18 hi1 hr hr2 H locs ls hP hD hS hl
            refine lv_iload hx hb dX3_pathLeadsHome_18 (lv_at hl 4 rfl) ?_
            refine lv_iload_n hx hb dX3_pathLeadsHome_20 rfl (lv_at hl 1 rfl) ?_
            refine z_icmp_ge (tgt := 46) hx hb (by omega) dX3_pathLeadsHome_21 (by decide) (fun c_21 => ?_) (fun c_21 => ?_)
            · refine lv_iload_n hx hb dX3_pathLeadsHome_46 rfl (lv_at hl 3 rfl) ?_
              refine lv_aload_n hx hb dX3_pathLeadsHome_47 rfl (lv_at hl 0 rfl) ?_
              refine va_get (D := D) (ci := 3) (v := .ref (b 1)) (C := RX3) (T := TX3) (N := 10) hx hb hts inT_X3 hown hE.1 hP 0 rfl rfl 1 (by decide) (hts _ qf_X3_19) (fun _ h9 => h9) rfl dX3_pathLeadsHome_48 ?_
              refine va_getN (D := D) (ci := 1) (v := .ref (aN 3)) (C := RX1) (T := TX1) (N := 11) hx hb hts inT_X1 hown hE.1 hP 1 rfl rfl 7 (by decide) (va_Nw.use rfl (hE.2 _ nf_X3_111 rfl)) (fun _ h9 => h9) rfl dX3_pathLeadsHome_51 ?_
              refine lv_iload_n hx hb dX3_pathLeadsHome_54 rfl (lv_at hl 2 rfl) ?_
              have hπi := hπ i (by omega)
              refine z_iald hx hb hE hP 3 rfl i (by omega) (by omega) (by first | decide | omega) ((π i : Nat) : Int) (hg3 i (by omega)) dX3_pathLeadsHome_55 ?_
              refine z_icmp_eq (tgt := 61) hx hb (by omega) dX3_pathLeadsHome_56 (by decide) (fun c_56 => ?_) (fun c_56 => ?_)
              · refine z_iinc (k := 2) (lv' := [(2, .int (zI (((i + 1) : Nat) : Int))), (0, .ref x), (1, .int (zI ((L : Nat) : Int))), (3, .int (zI ((r : Nat) : Int))), (4, .int (zI ((i1 : Nat) : Int)))]) hx hb (((i + 1) : Nat) : Int) (by omega) dX3_pathLeadsHome_61 hl rfl (by decide) rfl (fun ls hl => ?_)
                refine lv_goto (tgt := 2) hx hb dX3_pathLeadsHome_64 (by decide) ?_
                exact ih_2 (i + 1) (by omega) (by omega) (by intro j hj; rcases Nat.lt_or_ge j i with h1 | h1; exact hno j h1; rw [show j = i by omega, ← show i1 = L by omega, ← hr]; omega) _ _ _ hP hD hS (lv_sub hl [1, 2, 0] rfl)
              · refine lv_iconst (v := zI 0) hx hb dX3_pathLeadsHome_59 rfl ?_
                rw [← hQf]
                exact z_bret K hS () (by exact (b01_f (by simp only [homB, decide_eq_true_eq]; intro h9; have h8 := h9 i (by omega); rw [← show i1 = L by omega, ← hr] at h8; omega)).symm) (by omega) hP hD dX3_pathLeadsHome_60
            · refine lv_aload_n hx hb dX3_pathLeadsHome_24 rfl (lv_at hl 0 rfl) ?_
              refine va_get (D := D) (ci := 3) (v := .ref (b 1)) (C := RX3) (T := TX3) (N := 10) hx hb hts inT_X3 hown hE.1 hP 0 rfl rfl 1 (by decide) (hts _ qf_X3_19) (fun _ h9 => h9) rfl dX3_pathLeadsHome_25 ?_
              refine lv_aload_n hx hb dX3_pathLeadsHome_28 rfl (lv_at hl 0 rfl) ?_
              refine va_get (D := D) (ci := 3) (v := .ref (b 6)) (C := RX3) (T := TX3) (N := 10) hx hb hts inT_X3 hown hE.1 hP 0 rfl rfl 9 (by decide) (hts _ qf_X3_40) (fun _ h9 => h9) rfl dX3_pathLeadsHome_29 ?_
              refine lv_iload hx hb dX3_pathLeadsHome_32 (lv_at hl 4 rfl) ?_
              have hδi := hδ i1 (by omega)
              have hμr := hμ (δ i1) r hδi hr2
              refine z_iald hx hb hE hP 4 rfl i1 (by omega) (by omega) (by first | decide | omega) ((δ i1 : Nat) : Int) (hgp i1 (by omega)) dX3_pathLeadsHome_34 ?_
              refine lv_iload_n hx hb dX3_pathLeadsHome_35 rfl (lv_at hl 3 rfl) ?_
              refine zcall_i (wc := [cT (b 1) aN ((n : Nat) : Int) ((k : Nat) : Int) ((d : Nat) : Int) ((v : Nat) : Int), cR cI (aN 2) 72 g2]) (wr := [cX x b ik rr hc, cR cI (aN 3) 12 g3, cR cI (b 6) 4 gp]) (rest := []) hE hP hD hS hA [1, 2] [0, 3, 4] [0, 3, 4, 1, 2] rfl rfl (by decide) (by decide) (by decide) (fun (u : Unit) => [cX x b ik rr hc, cT (b 1) aN ((n : Nat) : Int) ((k : Nat) : Int) ((d : Nat) : Int) ((v : Nat) : Int), cR cI (aN 2) 72 g2, cR cI (aN 3) 12 g3, cR cI (b 6) 4 gp]) (fun u => rfl) (fun hPc hDc => zrunVN (As := [.int (zI ((δ i1 : Nat) : Int)), .int (zI ((r : Nat) : Int))]) (rest := []) (q0 := 0) (ci := 1) K k_X1_placeBehind nk_X3_114 ⟨⟨rfl, rfl⟩, ⟨Nat.le_of_ble_eq_true rfl, Nat.le_of_ble_eq_true rfl⟩⟩ rfl rfl hPc hDc (c_X1_placeBehind l D cI (b 1) aN n k d v g2 (δ i1) r ((μ (δ i1) r : Nat) : Int) (by first | assumption | omega) (by first | assumption | omega) (hg2 _ _ hδi hr2) _) rfl hl.1 rfl (Nat.le_of_ble_eq_true rfl) dX3_pathLeadsHome_36 ⟨Nat.zero_le _, Nat.zero_le _⟩) (by decide) (fun z u H locs hpost hP hD hS => ?_)
              subst hpost
              have hP : va_P D cls [cX x b ik rr hc, cT (b 1) aN ((n : Nat) : Int) ((k : Nat) : Int) ((d : Nat) : Int) ((v : Nat) : Int), cR cI (aN 2) 72 g2, cR cI (aN 3) 12 g3, cR cI (b 6) 4 gp] H := hP
              have hD : va_D (va_A [cX x b ik rr hc, cT (b 1) aN ((n : Nat) : Int) ((k : Nat) : Int) ((d : Nat) : Int) ((v : Nat) : Int), cR cI (aN 2) 72 g2, cR cI (aN 3) 12 g3, cR cI (b 6) 4 gp] sz) [cX x b ik rr hc, cT (b 1) aN ((n : Nat) : Int) ((k : Nat) : Int) ((d : Nat) : Int) ((v : Nat) : Int), cR cI (aN 2) 72 g2, cR cI (aN 3) 12 g3, cR cI (b 6) 4 gp] := hD
              refine W.eq (g2 := F0 m 39 ls [.int (zI ((μ (δ i1) r : Nat) : Int))]) rfl ?_
              refine lv_istore_n (lv' := [(3, .int (zI ((μ (δ i1) r : Nat) : Int))), (0, .ref x), (1, .int (zI ((L : Nat) : Int))), (2, .int (zI ((i : Nat) : Int))), (4, .int (zI ((i1 : Nat) : Int)))]) hx hb dX3_pathLeadsHome_39 rfl hl (by decide) rfl (fun ls hl => ?_)
              refine z_iinc (k := 4) (lv' := [(4, .int (zI (((i1 + 1) : Nat) : Int))), (3, .int (zI ((μ (δ i1) r : Nat) : Int))), (0, .ref x), (1, .int (zI ((L : Nat) : Int))), (2, .int (zI ((i : Nat) : Int)))]) hx hb (((i1 + 1) : Nat) : Int) (by omega) dX3_pathLeadsHome_40 hl rfl (by decide) rfl (fun ls hl => ?_)
              refine lv_goto (tgt := 18) hx hb dX3_pathLeadsHome_43 (by decide) ?_
              exact ih_18 (i1 + 1) (μ (δ i1) r) (by omega) (by omega) (by rw [hr]; rfl) (by omega) _ _ _ hP hD hS (lv_sub hl [2, 3, 4, 1, 0] rfl)
        exact cut_18 (L - 0 + 1) 0 i (Nat.lt_succ_self _) (by omega) (by rfl) (by omega) _ _ _ hP hD hS (lv_sub hl [2, 3, 4, 1, 0] rfl)
  exact cut_2 (n - 0 + 1) 0 (Nat.lt_succ_self _) (by omega) (by intro j hj; omega) _ _ _ hP hD hS (lv_sub hl [1, 2, 0] rfl)
set_option maxHeartbeats 4000000 in
set_option maxRecDepth 100000 in
theorem c_X3_nextPath (l : Launch) (D : va_G) (cI : ClassId) (x : Nat) (b : Nat → Nat) (ik rr hc : Int) (aN : Nat → Nat) (n k d v : Nat) (gp : Nat → Int) (δ : Nat → Nat) (L : Nat) (hk : k ≤ 6) (hL : L ≤ 4) (hgp : ∀ j, j < L → gp j = ((δ j : Nat) : Int)) (hδ : ∀ j, j < L → δ j < k) : zMv l yX3_nextPath cX3_nextPath 3 none ({ frames := 0, cells := 0, slots := 0, locals := 0 }) D cI [.ref x, .int (zI ((L : Nat) : Int))] [cX x b ik rr hc, cT (b 1) aN ((n : Nat) : Int) ((k : Nat) : Int) ((d : Nat) : Int) ((v : Nat) : Int), cR cI (b 6) 4 gp] (fun (u : (Nat → Int)) => ∀ j, j < L → u j = ((nx k δ L j : Nat) : Int)) (fun (u : (Nat → Int)) => [cX x b ik rr hc, cT (b 1) aN ((n : Nat) : Int) ((k : Nat) : Int) ((d : Nat) : Int) ((v : Nat) : Int), cR cI (b 6) 4 u]) := by
  intro sz
  refine zstart rfl (by decide) (Nat.le_of_ble_eq_true rfl) ?_
  intro p e s m below meth c ls K hnm hsz hP hD hS hl
  generalize hargs : ([.ref x, .int (zI ((L : Nat) : Int))] : List Value).toArray = args at K ⊢
  generalize hQf : MQ below _ args s _ _ _ = Qf
  have K : zK p s m args meth c cX3_nextPath 3 RX3 none D cI := K
  obtain ⟨hx, hb, hml, hown, hts, hE, -, -⟩ := id K
  have hA := zhA (ws0 := [cX x b ik rr hc, cT (b 1) aN ((n : Nat) : Int) ((k : Nat) : Int) ((d : Nat) : Int) ((v : Nat) : Int), cR cI (b 6) 4 gp]) hsz
  have hl : lv_has ls 3 [(0, .ref x), (1, .int (zI ((L : Nat) : Int)))] := hl
  refine lv_iload_n hx hb dX3_nextPath_0 rfl (lv_at hl 1 rfl) ?_
  refine lv_iconst (v := zI 1) hx hb dX3_nextPath_1 rfl ?_
  refine z_isub hx hb (((L : Nat) : Int) - 1) (by rfl) dX3_nextPath_2 ?_
  refine lv_istore_n (lv' := [(2, .int (zI (((L : Nat) : Int) - 1))), (0, .ref x), (1, .int (zI ((L : Nat) : Int)))]) hx hb dX3_nextPath_3 rfl hl (by decide) rfl (fun ls hl => ?_)
  have cut_4 : ∀ (N_4 : Nat), ∀ (i : Nat) (ε : Nat → Nat) (q : Nat → Int), i < N_4 → (i ≤ L) → (nx k ε i = nx k δ L) → (∀ j, j < L → q j = ((ε j : Nat) : Int)) → (∀ j, j < L → ε j < k) → ∀ (H : Heap) (locs : List Loc) (ls : Array Slot), va_P D cls [cX x b ik rr hc, cT (b 1) aN ((n : Nat) : Int) ((k : Nat) : Int) ((d : Nat) : Int) ((v : Nat) : Int), cR cI (b 6) 4 q] H → va_D (va_A [cX x b ik rr hc, cT (b 1) aN ((n : Nat) : Int) ((k : Nat) : Int) ((d : Nat) : Int) ((v : Nat) : Int), cR cI (b 6) 4 gp] sz) [cX x b ik rr hc, cT (b 1) aN ((n : Nat) : Int) ((k : Nat) : Int) ((d : Nat) : Int) ((v : Nat) : Int), cR cI (b 6) 4 q] → va_S (va_A [cX x b ik rr hc, cT (b 1) aN ((n : Nat) : Int) ((k : Nat) : Int) ((d : Nat) : Int) ((v : Nat) : Int), cR cI (b 6) 4 gp] sz) s.heap H locs → lv_has ls 3 [(0, .ref x), (1, .int (zI ((L : Nat) : Int))), (2, .int (zI (((i : Nat) : Int) - 1)))] → W p l e ({ frames := 0, cells := 0, slots := 0, locals := 0 }) s m args below meth c H locs 0 0 Qf (F0 m 4 ls []) := by
    intro N_4
    induction N_4 with
    | zero => intro i ε q hm_4; exact absurd hm_4 (Nat.not_lt_zero _)
    | succ N_4 ih_4 =>
      intro i ε q hm_4 hi hε hq hεk H locs ls hP hD hS hl
      refine lv_iload_n hx hb dX3_nextPath_4 rfl (lv_at hl 2 rfl) ?_
      refine z_if_lt (tgt := 48) hx hb (by omega) dX3_nextPath_5 (by decide) (fun c_5 => ?_) (fun c_5 => ?_)
      · rw [← hQf]
        exact z_vret K hS (q) (by rw [← hε, show i = 0 by omega]; exact hq) hP hD dX3_nextPath_48
      · refine lv_aload_n hx hb dX3_nextPath_8 rfl (lv_at hl 0 rfl) ?_
        refine va_get (D := D) (ci := 3) (v := .ref (b 6)) (C := RX3) (T := TX3) (N := 10) hx hb hts inT_X3 hown hE.1 hP 0 rfl rfl 9 (by decide) (hts _ qf_X3_40) (fun _ h9 => h9) rfl dX3_nextPath_9 ?_
        refine lv_iload_n hx hb dX3_nextPath_12 rfl (lv_at hl 2 rfl) ?_
        refine W.eq (g2 := F0 m 13 ls [.int (zI (((i - 1) : Nat) : Int)), .ref (b 6)]) (by rw [show (((i : Nat) : Int) - 1 : Int) = (((i - 1) : Nat) : Int) from by omega]) ?_
        refine lv_dup2_11 hx hb dX3_nextPath_13 rfl rfl ?_
        have hεi := hεk (i - 1) (by omega)
        refine z_iald hx hb hE hP 2 rfl (i - 1) (by omega) (by omega) (by first | decide | omega) ((ε (i - 1) : Nat) : Int) (hq (i - 1) (by omega)) dX3_nextPath_14 ?_
        refine lv_iconst (v := zI 1) hx hb dX3_nextPath_15 rfl ?_
        refine z_iadd hx hb ((((ε (i - 1)) + 1) : Nat) : Int) (by omega) dX3_nextPath_16 ?_
        refine z_iast hx hb hE hP hD hS 2 rfl (i - 1) (by omega) (by omega) (by first | decide | omega) (zup q (i - 1) ((((ε (i - 1)) + 1) : Nat) : Int)) rfl dX3_nextPath_17 (fun H locs hP hD hS => ?_)
        have hP : va_P D cls [cX x b ik rr hc, cT (b 1) aN ((n : Nat) : Int) ((k : Nat) : Int) ((d : Nat) : Int) ((v : Nat) : Int), cR cI (b 6) 4 (zup q (i - 1) ((((ε (i - 1)) + 1) : Nat) : Int))] H := hP
        have hD : va_D (va_A [cX x b ik rr hc, cT (b 1) aN ((n : Nat) : Int) ((k : Nat) : Int) ((d : Nat) : Int) ((v : Nat) : Int), cR cI (b 6) 4 gp] sz) [cX x b ik rr hc, cT (b 1) aN ((n : Nat) : Int) ((k : Nat) : Int) ((d : Nat) : Int) ((v : Nat) : Int), cR cI (b 6) 4 (zup q (i - 1) ((((ε (i - 1)) + 1) : Nat) : Int))] := hD
        refine lv_aload_n hx hb dX3_nextPath_18 rfl (lv_at hl 0 rfl) ?_
        refine va_get (D := D) (ci := 3) (v := .ref (b 6)) (C := RX3) (T := TX3) (N := 10) hx hb hts inT_X3 hown hE.1 hP 0 rfl rfl 9 (by decide) (hts _ qf_X3_40) (fun _ h9 => h9) rfl dX3_nextPath_19 ?_
        refine lv_iload_n hx hb dX3_nextPath_22 rfl (lv_at hl 2 rfl) ?_
        refine W.eq (g2 := F0 m 23 ls [.int (zI (((i - 1) : Nat) : Int)), .ref (b 6)]) (by rw [show (((i : Nat) : Int) - 1 : Int) = (((i - 1) : Nat) : Int) from by omega]) ?_
        refine z_iald hx hb hE hP 2 rfl (i - 1) (by omega) (by omega) (by first | decide | omega) (((ε (i - 1) + 1) : Nat) : Int) (zup_s _ _ _) dX3_nextPath_23 ?_
        refine lv_aload_n hx hb dX3_nextPath_24 rfl (lv_at hl 0 rfl) ?_
        refine va_get (D := D) (ci := 3) (v := .ref (b 1)) (C := RX3) (T := TX3) (N := 10) hx hb hts inT_X3 hown hE.1 hP 0 rfl rfl 1 (by decide) (hts _ qf_X3_19) (fun _ h9 => h9) rfl dX3_nextPath_25 ?_
        refine va_getN (D := D) (ci := 1) (v := .int (zI ((k : Nat) : Int))) (C := RX1) (T := TX1) (N := 11) hx hb hts inT_X1 hown hE.1 hP 1 rfl rfl 1 (by decide) (va_Nw.use rfl (hE.2 _ nf_X3_73 rfl)) (fun _ h9 => h9) rfl dX3_nextPath_28 ?_
        refine z_icmp_ge (tgt := 35) hx hb (by omega) dX3_nextPath_31 (by decide) (fun c_31 => ?_) (fun c_31 => ?_)
        · refine lv_aload_n hx hb dX3_nextPath_35 rfl (lv_at hl 0 rfl) ?_
          refine va_get (D := D) (ci := 3) (v := .ref (b 6)) (C := RX3) (T := TX3) (N := 10) hx hb hts inT_X3 hown hE.1 hP 0 rfl rfl 9 (by decide) (hts _ qf_X3_40) (fun _ h9 => h9) rfl dX3_nextPath_36 ?_
          refine lv_iload_n hx hb dX3_nextPath_39 rfl (lv_at hl 2 rfl) ?_
          refine W.eq (g2 := F0 m 40 ls [.int (zI (((i - 1) : Nat) : Int)), .ref (b 6)]) (by rw [show (((i : Nat) : Int) - 1 : Int) = (((i - 1) : Nat) : Int) from by omega]) ?_
          refine lv_iconst (v := zI 0) hx hb dX3_nextPath_40 rfl ?_
          refine z_iast hx hb hE hP hD hS 2 rfl (i - 1) (by omega) (by omega) (by first | decide | omega) (zup (zup q (i - 1) ((((ε (i - 1)) + 1) : Nat) : Int)) (i - 1) 0) rfl dX3_nextPath_41 (fun H locs hP hD hS => ?_)
          have hP : va_P D cls [cX x b ik rr hc, cT (b 1) aN ((n : Nat) : Int) ((k : Nat) : Int) ((d : Nat) : Int) ((v : Nat) : Int), cR cI (b 6) 4 (zup (zup q (i - 1) ((((ε (i - 1)) + 1) : Nat) : Int)) (i - 1) 0)] H := hP
          have hD : va_D (va_A [cX x b ik rr hc, cT (b 1) aN ((n : Nat) : Int) ((k : Nat) : Int) ((d : Nat) : Int) ((v : Nat) : Int), cR cI (b 6) 4 gp] sz) [cX x b ik rr hc, cT (b 1) aN ((n : Nat) : Int) ((k : Nat) : Int) ((d : Nat) : Int) ((v : Nat) : Int), cR cI (b 6) 4 (zup (zup q (i - 1) ((((ε (i - 1)) + 1) : Nat) : Int)) (i - 1) 0)] := hD
          have hq1 : ∀ j, j < L → zup (zup q (i - 1) (((ε (i - 1) + 1) : Nat) : Int)) (i - 1) 0 j = ((nup ε (i - 1) 0 j : Nat) : Int) := by
            intro j hj
            unfold zup nup
            by_cases h9 : j = i - 1
            · rw [if_pos h9, if_pos h9]; rfl
            · rw [if_neg h9, if_neg h9, if_neg h9]; exact hq j hj
          have hq2 : ∀ j, j < L → nup ε (i - 1) 0 j < k := by
            intro j hj
            unfold nup
            split
            · omega
            · exact hεk j hj
          refine z_iinc (k := 2) (lv' := [(2, .int (zI (((i - 1 : Nat) : Int) - 1))), (0, .ref x), (1, .int (zI ((L : Nat) : Int)))]) hx hb (((i - 1 : Nat) : Int) - 1) (by omega) dX3_nextPath_42 hl rfl (by decide) rfl (fun ls hl => ?_)
          refine lv_goto (tgt := 4) hx hb dX3_nextPath_45 (by decide) ?_
          exact ih_4 (i - 1) (nup ε (i - 1) 0) (zup (zup q (i - 1) ((((ε (i - 1)) + 1) : Nat) : Int)) (i - 1) 0) (by omega) (by omega) (by exact (nx_f' (by omega) (by omega)).symm.trans hε) (by exact hq1) (by exact hq2) _ _ _ hP hD hS (lv_sub hl [1, 2, 0] rfl)
        · rw [← hQf]
          exact z_vret K hS (zup q (i - 1) ((((ε (i - 1)) + 1) : Nat) : Int)) (by rw [← hε, nx_t' (by omega) (by omega)]; intro j hj; unfold zup nup; split; rfl; exact hq j hj) hP hD dX3_nextPath_34
  exact cut_4 (L + 1) L δ gp (Nat.lt_succ_self _) (by omega) (by rfl) (by exact hgp) (by exact hδ) _ _ _ hP hD hS (lv_sub hl [1, 2, 0] rfl)
set_option maxHeartbeats 4000000 in
set_option maxRecDepth 100000 in
theorem c_X3_pathInDigits (l : Launch) (D : va_G) (cI : ClassId) (x : Nat) (b : Nat → Nat) (ik rr hc : Int) (aN : Nat → Nat) (n k d v : Nat) (gp : Nat → Int) (δ : Nat → Nat) (L : Nat) (hL : L ≤ 4) (hgp : ∀ j, j < L → gp j = ((δ j : Nat) : Int)) : zMi l yX3_pathInDigits cX3_pathInDigits 4 (some .int) ({ frames := 0, cells := 0, slots := 0, locals := 0 }) D cI [.ref x, .int (zI ((L : Nat) : Int))] [cX x b ik rr hc, cR cI (b 6) 4 gp] (fun (z : Int) (u : Unit) => z = (((dgs δ L) : Nat) : Int)) (fun (u : Unit) => [cX x b ik rr hc, cR cI (b 6) 4 gp]) := by
  intro sz
  refine zstart rfl (by decide) (Nat.le_of_ble_eq_true rfl) ?_
  intro p e s m below meth c ls K hnm hsz hP hD hS hl
  generalize hargs : ([.ref x, .int (zI ((L : Nat) : Int))] : List Value).toArray = args at K ⊢
  generalize hQf : MQ below _ args s _ _ _ = Qf
  have K : zK p s m args meth c cX3_pathInDigits 4 RX3 (some .int) D cI := K
  obtain ⟨hx, hb, hml, hown, hts, hE, -, -⟩ := id K
  have hA := zhA (ws0 := [cX x b ik rr hc, cR cI (b 6) 4 gp]) hsz
  have hl : lv_has ls 4 [(0, .ref x), (1, .int (zI ((L : Nat) : Int)))] := hl
  refine lv_iconst (v := zI 0) hx hb dX3_pathInDigits_0 rfl ?_
  refine lv_istore_n (lv' := [(2, .int (zI 0)), (0, .ref x), (1, .int (zI ((L : Nat) : Int)))]) hx hb dX3_pathInDigits_1 rfl hl (by decide) rfl (fun ls hl => ?_)
  refine lv_iconst (v := zI 0) hx hb dX3_pathInDigits_2 rfl ?_
  refine lv_istore_n (lv' := [(3, .int (zI 0)), (2, .int (zI 0)), (0, .ref x), (1, .int (zI ((L : Nat) : Int)))]) hx hb dX3_pathInDigits_3 rfl hl (by decide) rfl (fun ls hl => ?_)
  have cut_4 : ∀ (N_4 : Nat), ∀ (i y : Nat), L - i < N_4 → (i ≤ L) → (y = dgs δ i) → ∀ (H : Heap) (locs : List Loc) (ls : Array Slot), va_P D cls [cX x b ik rr hc, cR cI (b 6) 4 gp] H → va_D (va_A [cX x b ik rr hc, cR cI (b 6) 4 gp] sz) [cX x b ik rr hc, cR cI (b 6) 4 gp] → va_S (va_A [cX x b ik rr hc, cR cI (b 6) 4 gp] sz) s.heap H locs → lv_has ls 4 [(0, .ref x), (1, .int (zI ((L : Nat) : Int))), (2, .int (zI ((y : Nat) : Int))), (3, .int (zI ((i : Nat) : Int)))] → W p l e ({ frames := 0, cells := 0, slots := 0, locals := 0 }) s m args below meth c H locs 0 0 Qf (F0 m 4 ls []) := by
    intro N_4
    induction N_4 with
    | zero => intro i y hm_4; exact absurd hm_4 (Nat.not_lt_zero _)
    | succ N_4 ih_4 =>
      intro i y hm_4 hi hy H locs ls hP hD hS hl
      refine lv_iload_n hx hb dX3_pathInDigits_4 rfl (lv_at hl 3 rfl) ?_
      refine lv_iload_n hx hb dX3_pathInDigits_5 rfl (lv_at hl 1 rfl) ?_
      refine z_icmp_ge (tgt := 29) hx hb (by omega) dX3_pathInDigits_6 (by decide) (fun c_6 => ?_) (fun c_6 => ?_)
      · refine lv_iload_n hx hb dX3_pathInDigits_29 rfl (lv_at hl 2 rfl) ?_
        rw [← hQf]
        exact z_iret K hS () (by rw [hy, show i = L by omega]) hP hD dX3_pathInDigits_30
      · refine lv_bipush (v := zI 10) hx hb dX3_pathInDigits_9 (by decide) ?_
        refine lv_iload_n hx hb dX3_pathInDigits_11 rfl (lv_at hl 2 rfl) ?_
        refine z_imul hx hb (((10 * y) : Nat) : Int) (by first | omega | exact (Int.natCast_mul _ _).symm) dX3_pathInDigits_12 ?_
        refine lv_aload_n hx hb dX3_pathInDigits_13 rfl (lv_at hl 0 rfl) ?_
        refine va_get (D := D) (ci := 3) (v := .ref (b 6)) (C := RX3) (T := TX3) (N := 10) hx hb hts inT_X3 hown hE.1 hP 0 rfl rfl 9 (by decide) (hts _ qf_X3_40) (fun _ h9 => h9) rfl dX3_pathInDigits_14 ?_
        refine lv_iload_n hx hb dX3_pathInDigits_17 rfl (lv_at hl 3 rfl) ?_
        refine z_iald hx hb hE hP 1 rfl i (by omega) (by omega) (by first | decide | omega) ((δ i : Nat) : Int) (hgp i (by omega)) dX3_pathInDigits_18 ?_
        refine z_iadd hx hb ((((10 * y) + (δ i)) : Nat) : Int) (by omega) dX3_pathInDigits_19 ?_
        refine lv_iconst (v := zI 1) hx hb dX3_pathInDigits_20 rfl ?_
        refine z_iadd hx hb (((((10 * y) + (δ i)) + 1) : Nat) : Int) (by omega) dX3_pathInDigits_21 ?_
        refine lv_istore_n (lv' := [(2, .int (zI (((((10 * y) + (δ i)) + 1) : Nat) : Int))), (0, .ref x), (1, .int (zI ((L : Nat) : Int))), (3, .int (zI ((i : Nat) : Int)))]) hx hb dX3_pathInDigits_22 rfl hl (by decide) rfl (fun ls hl => ?_)
        refine z_iinc (k := 3) (lv' := [(3, .int (zI (((i + 1) : Nat) : Int))), (2, .int (zI (((((10 * y) + (δ i)) + 1) : Nat) : Int))), (0, .ref x), (1, .int (zI ((L : Nat) : Int)))]) hx hb (((i + 1) : Nat) : Int) (by omega) dX3_pathInDigits_23 hl rfl (by decide) rfl (fun ls hl => ?_)
        refine lv_goto (tgt := 4) hx hb dX3_pathInDigits_26 (by decide) ?_
        exact ih_4 (i + 1) (((10 * y) + (δ i)) + 1) (by omega) (by omega) (by rw [hy]; rfl) _ _ _ hP hD hS (lv_sub hl [2, 3, 1, 0] rfl)
  exact cut_4 (L - 0 + 1) 0 0 (Nat.lt_succ_self _) (by omega) (by rfl) _ _ _ hP hD hS (lv_sub hl [2, 3, 1, 0] rfl)
set_option maxHeartbeats 4000000 in
set_option maxRecDepth 100000 in
theorem c_X3_findPathHome (l : Launch) (D : va_G) (cI : ClassId) (x : Nat) (b : Nat → Nat) (ik rr hc : Int) (aN : Nat → Nat) (n k d v : Nat) (g2 : Nat → Int) (μ : Nat → Nat → Nat) (g3 gp : Nat → Int) (π : Nat → Nat) (L : Nat) (hn : n ≤ 12) (hk : k ≤ 6) (hg2 : ∀ q i, q < k → i < n → g2 (q * 12 + i) = ((μ q i : Nat) : Int)) (hμ : ∀ q i, q < k → i < n → μ q i < n) (hg3 : ∀ j, j < n → g3 j = ((π j : Nat) : Int)) (hπ : ∀ j, j < n → π j < n) (hL : L ≤ 4) (hk1 : 1 ≤ k) : zMi l yX3_findPathHome cX3_findPathHome 4 (some .boolean) ({ frames := 2, cells := 0, slots := 0, locals := 46 }) D cI [.ref x, .int (zI ((L : Nat) : Int))] [cX x b ik rr hc, cT (b 1) aN ((n : Nat) : Int) ((k : Nat) : Int) ((d : Nat) : Int) ((v : Nat) : Int), cR cI (aN 2) 72 g2, cR cI (aN 3) 12 g3, cR cI (b 6) 4 gp] (fun (z : Int) (u : (Nat → Int)) => (z = (b01 ((fa_first (fun q => homB μ (dg k L q) π L n) (k ^ L)) < k ^ L))) ∧ ((fa_first (fun q => homB μ (dg k L q) π L n) (k ^ L)) < k ^ L → ∀ j, j < L → u j = ((dg k L (fa_first (fun q => homB μ (dg k L q) π L n) (k ^ L)) j : Nat) : Int))) (fun (u : (Nat → Int)) => [cX x b ik rr hc, cT (b 1) aN ((n : Nat) : Int) ((k : Nat) : Int) ((d : Nat) : Int) ((v : Nat) : Int), cR cI (aN 2) 72 g2, cR cI (aN 3) 12 g3, cR cI (b 6) 4 u]) := by
  intro sz
  refine zstart rfl (by decide) (Nat.le_of_ble_eq_true rfl) ?_
  intro p e s m below meth c ls K hnm hsz hP hD hS hl
  generalize hargs : ([.ref x, .int (zI ((L : Nat) : Int))] : List Value).toArray = args at K ⊢
  generalize hQf : MQ below _ args s _ _ _ = Qf
  have K : zK p s m args meth c cX3_findPathHome 4 RX3 (some .boolean) D cI := K
  obtain ⟨hx, hb, hml, hown, hts, hE, -, -⟩ := id K
  have hA := zhA (ws0 := [cX x b ik rr hc, cT (b 1) aN ((n : Nat) : Int) ((k : Nat) : Int) ((d : Nat) : Int) ((v : Nat) : Int), cR cI (aN 2) 72 g2, cR cI (aN 3) 12 g3, cR cI (b 6) 4 gp]) hsz
  have hl : lv_has ls 4 [(0, .ref x), (1, .int (zI ((L : Nat) : Int)))] := hl
  have hpw := pw_le hk hL
  refine lv_iconst (v := zI 1) hx hb dX3_findPathHome_0 rfl ?_
  refine lv_istore_n (lv' := [(2, .int (zI 1)), (0, .ref x), (1, .int (zI ((L : Nat) : Int)))]) hx hb dX3_findPathHome_1 rfl hl (by decide) rfl (fun ls hl => ?_)
  refine lv_iconst (v := zI 0) hx hb dX3_findPathHome_2 rfl ?_
  refine lv_istore_n (lv' := [(3, .int (zI 0)), (2, .int (zI 1)), (0, .ref x), (1, .int (zI ((L : Nat) : Int)))]) hx hb dX3_findPathHome_3 rfl hl (by decide) rfl (fun ls hl => ?_)
  have cut_4 : ∀ (N_4 : Nat), ∀ (i y : Nat) (q : Nat → Int), L - i < N_4 → (i ≤ L) → (y = k ^ i) → (∀ j, j < i → q j = 0) → ∀ (H : Heap) (locs : List Loc) (ls : Array Slot), va_P D cls [cX x b ik rr hc, cT (b 1) aN ((n : Nat) : Int) ((k : Nat) : Int) ((d : Nat) : Int) ((v : Nat) : Int), cR cI (aN 2) 72 g2, cR cI (aN 3) 12 g3, cR cI (b 6) 4 q] H → va_D (va_A [cX x b ik rr hc, cT (b 1) aN ((n : Nat) : Int) ((k : Nat) : Int) ((d : Nat) : Int) ((v : Nat) : Int), cR cI (aN 2) 72 g2, cR cI (aN 3) 12 g3, cR cI (b 6) 4 gp] sz) [cX x b ik rr hc, cT (b 1) aN ((n : Nat) : Int) ((k : Nat) : Int) ((d : Nat) : Int) ((v : Nat) : Int), cR cI (aN 2) 72 g2, cR cI (aN 3) 12 g3, cR cI (b 6) 4 q] → va_S (va_A [cX x b ik rr hc, cT (b 1) aN ((n : Nat) : Int) ((k : Nat) : Int) ((d : Nat) : Int) ((v : Nat) : Int), cR cI (aN 2) 72 g2, cR cI (aN 3) 12 g3, cR cI (b 6) 4 gp] sz) s.heap H locs → lv_has ls 4 [(0, .ref x), (1, .int (zI ((L : Nat) : Int))), (2, .int (zI ((y : Nat) : Int))), (3, .int (zI ((i : Nat) : Int)))] → W p l e ({ frames := 2, cells := 0, slots := 0, locals := 46 }) s m args below meth c H locs 0 0 Qf (F0 m 4 ls []) := by
    intro N_4
    induction N_4 with
    | zero => intro i y q hm_4; exact absurd hm_4 (Nat.not_lt_zero _)
    | succ N_4 ih_4 =>
      intro i y q hm_4 hi hy hq H locs ls hP hD hS hl
      refine lv_iload_n hx hb dX3_findPathHome_4 rfl (lv_at hl 3 rfl) ?_
      refine lv_iload_n hx hb dX3_findPathHome_5 rfl (lv_at hl 1 rfl) ?_
      refine z_icmp_ge (tgt := 32) hx hb (by omega) dX3_findPathHome_6 (by decide) (fun c_6 => ?_) (fun c_6 => ?_)
      · have hyL : y = k ^ L := by rw [hy, show i = L by omega]
        refine lv_iconst (v := zI 0) hx hb dX3_findPathHome_32 rfl ?_
        refine lv_istore_n (lv' := [(3, .int (zI 0)), (0, .ref x), (1, .int (zI ((L : Nat) : Int))), (2, .int (zI ((y : Nat) : Int)))]) hx hb dX3_findPathHome_33 rfl hl (by decide) rfl (fun ls hl => ?_)
        have cut_34 : ∀ (N_34 : Nat), ∀ (i1 : Nat) (q1 : Nat → Int), y - i1 < N_34 → (i1 ≤ y) → (∀ j, j < L → q1 j = ((dg k L i1 j : Nat) : Int)) → (∀ j, j < i1 → homB μ (dg k L j) π L n = false) → ∀ (H : Heap) (locs : List Loc) (ls : Array Slot), va_P D cls [cX x b ik rr hc, cT (b 1) aN ((n : Nat) : Int) ((k : Nat) : Int) ((d : Nat) : Int) ((v : Nat) : Int), cR cI (aN 2) 72 g2, cR cI (aN 3) 12 g3, cR cI (b 6) 4 q1] H → va_D (va_A [cX x b ik rr hc, cT (b 1) aN ((n : Nat) : Int) ((k : Nat) : Int) ((d : Nat) : Int) ((v : Nat) : Int), cR cI (aN 2) 72 g2, cR cI (aN 3) 12 g3, cR cI (b 6) 4 gp] sz) [cX x b ik rr hc, cT (b 1) aN ((n : Nat) : Int) ((k : Nat) : Int) ((d : Nat) : Int) ((v : Nat) : Int), cR cI (aN 2) 72 g2, cR cI (aN 3) 12 g3, cR cI (b 6) 4 q1] → va_S (va_A [cX x b ik rr hc, cT (b 1) aN ((n : Nat) : Int) ((k : Nat) : Int) ((d : Nat) : Int) ((v : Nat) : Int), cR cI (aN 2) 72 g2, cR cI (aN 3) 12 g3, cR cI (b 6) 4 gp] sz) s.heap H locs → lv_has ls 4 [(0, .ref x), (1, .int (zI ((L : Nat) : Int))), (2, .int (zI ((y : Nat) : Int))), (3, .int (zI ((i1 : Nat) : Int)))] → W p l e ({ frames := 2, cells := 0, slots := 0, locals := 46 }) s m args below meth c H locs 0 0 Qf (F0 m 34 ls []) := by
          intro N_34
          induction N_34 with
          | zero => intro i1 q1 hm_34; exact absurd hm_34 (Nat.not_lt_zero _)
          | succ N_34 ih_34 =>
            intro i1 q1 hm_34 hi1 hq1 hno H locs ls hP hD hS hl
            refine lv_iload_n hx hb dX3_findPathHome_34 rfl (lv_at hl 3 rfl) ?_
            refine lv_iload_n hx hb dX3_findPathHome_35 rfl (lv_at hl 2 rfl) ?_
            refine z_icmp_ge (tgt := 60) hx hb (by omega) dX3_findPathHome_36 (by decide) (fun c_36 => ?_) (fun c_36 => ?_)
            · refine lv_iconst (v := zI 0) hx hb dX3_findPathHome_60 rfl ?_
              rw [← hQf]
              exact z_bret K hS (q1) ⟨(by exact (b01_f (by rw [fa_is (m := k ^ L) (fun j hj => hno j (by omega)) (Or.inl rfl)]; omega)).symm), (by rw [fa_is (m := k ^ L) (fun j hj => hno j (by omega)) (Or.inl rfl)]; intro h9; omega)⟩ (by omega) hP hD dX3_findPathHome_61
            · refine lv_aload_n hx hb dX3_findPathHome_39 rfl (lv_at hl 0 rfl) ?_
              refine lv_iload_n hx hb dX3_findPathHome_40 rfl (lv_at hl 1 rfl) ?_
              refine zcall_i (wc := [cX x b ik rr hc, cT (b 1) aN ((n : Nat) : Int) ((k : Nat) : Int) ((d : Nat) : Int) ((v : Nat) : Int), cR cI (aN 2) 72 g2, cR cI (aN 3) 12 g3, cR cI (b 6) 4 q1]) (wr := []) (rest := []) hE hP hD hS hA [0, 1, 2, 3, 4] [] [0, 1, 2, 3, 4] rfl rfl (by decide) (by decide) (by decide) (fun (u : Unit) => [cX x b ik rr hc, cT (b 1) aN ((n : Nat) : Int) ((k : Nat) : Int) ((d : Nat) : Int) ((v : Nat) : Int), cR cI (aN 2) 72 g2, cR cI (aN 3) 12 g3, cR cI (b 6) 4 q1]) (fun u => rfl) (fun hPc hDc => zrunV (As := [.int (zI ((L : Nat) : Int))]) (rest := []) (q0 := 0) (ci := 3) K k_X3_pathLeadsHome qm_X3_287 ⟨⟨rfl, rfl⟩, ⟨Nat.le_of_ble_eq_true rfl, Nat.le_of_ble_eq_true rfl⟩⟩ rfl rfl hPc hDc (c_X3_pathLeadsHome l D cI x b ik rr hc aN n k d v g2 μ g3 q1 π (dg k L i1) L (by first | assumption | omega) (by first | assumption | omega) (by first | assumption | omega) (by first | assumption | omega) (by first | assumption | omega) (by first | assumption | omega) (by first | assumption | omega) hq1 (fun j _ => dg_lt (by omega)) _) rfl hl.1 rfl (Nat.le_of_ble_eq_true rfl) dX3_findPathHome_41 ⟨Nat.zero_le _, Nat.zero_le _⟩) (by decide) (fun z u H locs hpost hP hD hS => ?_)
              subst hpost
              have hP : va_P D cls [cX x b ik rr hc, cT (b 1) aN ((n : Nat) : Int) ((k : Nat) : Int) ((d : Nat) : Int) ((v : Nat) : Int), cR cI (aN 2) 72 g2, cR cI (aN 3) 12 g3, cR cI (b 6) 4 q1] H := hP
              have hD : va_D (va_A [cX x b ik rr hc, cT (b 1) aN ((n : Nat) : Int) ((k : Nat) : Int) ((d : Nat) : Int) ((v : Nat) : Int), cR cI (aN 2) 72 g2, cR cI (aN 3) 12 g3, cR cI (b 6) 4 gp] sz) [cX x b ik rr hc, cT (b 1) aN ((n : Nat) : Int) ((k : Nat) : Int) ((d : Nat) : Int) ((v : Nat) : Int), cR cI (aN 2) 72 g2, cR cI (aN 3) 12 g3, cR cI (b 6) 4 q1] := hD
              refine W.eq (g2 := F0 m 44 ls [.int (zI (b01 (homB μ (dg k L i1) π L n = true)))]) rfl ?_
              refine z_if_eq (tgt := 49) hx hb (by have := b01_r (homB μ (dg k L i1) π L n = true); omega) dX3_findPathHome_44 (by decide) (fun c_44 => ?_) (fun c_44 => ?_)
              · refine lv_aload_n hx hb dX3_findPathHome_49 rfl (lv_at hl 0 rfl) ?_
                refine lv_iload_n hx hb dX3_findPathHome_50 rfl (lv_at hl 1 rfl) ?_
                refine zcall_v (wc := [cX x b ik rr hc, cT (b 1) aN ((n : Nat) : Int) ((k : Nat) : Int) ((d : Nat) : Int) ((v : Nat) : Int), cR cI (b 6) 4 q1]) (wr := [cR cI (aN 2) 72 g2, cR cI (aN 3) 12 g3]) (rest := []) hE hP hD hS hA [0, 1, 4] [2, 3] [2, 3, 0, 1, 4] rfl rfl (by decide) (by decide) (by decide) (fun (u : (Nat → Int)) => [cX x b ik rr hc, cT (b 1) aN ((n : Nat) : Int) ((k : Nat) : Int) ((d : Nat) : Int) ((v : Nat) : Int), cR cI (aN 2) 72 g2, cR cI (aN 3) 12 g3, cR cI (b 6) 4 u]) (fun u => rfl) (fun hPc hDc => zrunV (As := [.int (zI ((L : Nat) : Int))]) (rest := []) (q0 := 0) (ci := 3) K k_X3_nextPath qm_X3_290 ⟨⟨rfl, rfl⟩, ⟨Nat.le_of_ble_eq_true rfl, Nat.le_of_ble_eq_true rfl⟩⟩ rfl rfl hPc hDc (c_X3_nextPath l D cI x b ik rr hc aN n k d v q1 (dg k L i1) L (by first | assumption | omega) (by first | assumption | omega) hq1 (fun j _ => dg_lt (by omega)) _) rfl hl.1 rfl (Nat.le_of_ble_eq_true rfl) dX3_findPathHome_51 ⟨Nat.zero_le _, Nat.zero_le _⟩) (by decide) (fun u H locs hpost hP hD hS => ?_)
                obtain ⟨op_1, hu⟩ : ∃ z, z = u := ⟨_, rfl⟩
                subst hu
                have hop_51 := hpost
                have hop_51 : ∀ j, j < L → op_1 j = ((nx k (dg k L i1) L j : Nat) : Int) := hop_51
                have hP : va_P D cls [cX x b ik rr hc, cT (b 1) aN ((n : Nat) : Int) ((k : Nat) : Int) ((d : Nat) : Int) ((v : Nat) : Int), cR cI (aN 2) 72 g2, cR cI (aN 3) 12 g3, cR cI (b 6) 4 op_1] H := hP
                have hD : va_D (va_A [cX x b ik rr hc, cT (b 1) aN ((n : Nat) : Int) ((k : Nat) : Int) ((d : Nat) : Int) ((v : Nat) : Int), cR cI (aN 2) 72 g2, cR cI (aN 3) 12 g3, cR cI (b 6) 4 gp] sz) [cX x b ik rr hc, cT (b 1) aN ((n : Nat) : Int) ((k : Nat) : Int) ((d : Nat) : Int) ((v : Nat) : Int), cR cI (aN 2) 72 g2, cR cI (aN 3) 12 g3, cR cI (b 6) 4 op_1] := hD
                refine z_iinc (k := 3) (lv' := [(3, .int (zI (((i1 + 1) : Nat) : Int))), (0, .ref x), (1, .int (zI ((L : Nat) : Int))), (2, .int (zI ((y : Nat) : Int)))]) hx hb (((i1 + 1) : Nat) : Int) (by omega) dX3_findPathHome_54 hl rfl (by decide) rfl (fun ls hl => ?_)
                refine lv_goto (tgt := 34) hx hb dX3_findPathHome_57 (by decide) ?_
                exact ih_34 (i1 + 1) op_1 (by omega) (by omega) (by intro j hj; rw [hop_51 j hj, nx_dg' k (by omega) L (by omega) i1 (by omega) j hj]) (by intro j hj; rcases Nat.lt_or_ge j i1 with h1 | h1; exact hno j h1; rw [show j = i1 by omega]; simpa using b01_eq c_44) _ _ _ hP hD hS (lv_sub hl [1, 2, 3, 0] rfl)
              · have hfa : (fa_first (fun q => homB μ (dg k L q) π L n) (k ^ L)) = i1 := fa_is hno (Or.inr ⟨by omega, by simpa using b01_ne c_44⟩)
                refine lv_iconst (v := zI 1) hx hb dX3_findPathHome_47 rfl ?_
                rw [← hQf]
                exact z_bret K hS (q1) ⟨(by exact (b01_t (by rw [hfa]; omega)).symm), (by rw [hfa]; intro _; exact hq1)⟩ (by omega) hP hD dX3_findPathHome_48
        exact cut_34 (y - 0 + 1) 0 q (Nat.lt_succ_self _) (by omega) (by intro j hj; rw [hq j (by omega)]; simp [dg]) (by intro j hj; omega) _ _ _ hP hD hS (lv_sub hl [1, 2, 3, 0] rfl)
      · refine lv_aload_n hx hb dX3_findPathHome_9 rfl (lv_at hl 0 rfl) ?_
        refine va_get (D := D) (ci := 3) (v := .ref (b 6)) (C := RX3) (T := TX3) (N := 10) hx hb hts inT_X3 hown hE.1 hP 0 rfl rfl 9 (by decide) (hts _ qf_X3_40) (fun _ h9 => h9) rfl dX3_findPathHome_10 ?_
        refine lv_iload_n hx hb dX3_findPathHome_13 rfl (lv_at hl 3 rfl) ?_
        refine lv_iconst (v := zI 0) hx hb dX3_findPathHome_14 rfl ?_
        refine z_iast hx hb hE hP hD hS 4 rfl i (by omega) (by omega) (by first | decide | omega) (zup q i 0) rfl dX3_findPathHome_15 (fun H locs hP hD hS => ?_)
        have hP : va_P D cls [cX x b ik rr hc, cT (b 1) aN ((n : Nat) : Int) ((k : Nat) : Int) ((d : Nat) : Int) ((v : Nat) : Int), cR cI (aN 2) 72 g2, cR cI (aN 3) 12 g3, cR cI (b 6) 4 (zup q i 0)] H := hP
        have hD : va_D (va_A [cX x b ik rr hc, cT (b 1) aN ((n : Nat) : Int) ((k : Nat) : Int) ((d : Nat) : Int) ((v : Nat) : Int), cR cI (aN 2) 72 g2, cR cI (aN 3) 12 g3, cR cI (b 6) 4 gp] sz) [cX x b ik rr hc, cT (b 1) aN ((n : Nat) : Int) ((k : Nat) : Int) ((d : Nat) : Int) ((v : Nat) : Int), cR cI (aN 2) 72 g2, cR cI (aN 3) 12 g3, cR cI (b 6) 4 (zup q i 0)] := hD
        refine lv_iload_n hx hb dX3_findPathHome_16 rfl (lv_at hl 2 rfl) ?_
        refine lv_aload_n hx hb dX3_findPathHome_17 rfl (lv_at hl 0 rfl) ?_
        refine va_get (D := D) (ci := 3) (v := .ref (b 1)) (C := RX3) (T := TX3) (N := 10) hx hb hts inT_X3 hown hE.1 hP 0 rfl rfl 1 (by decide) (hts _ qf_X3_19) (fun _ h9 => h9) rfl dX3_findPathHome_18 ?_
        refine va_getN (D := D) (ci := 1) (v := .int (zI ((k : Nat) : Int))) (C := RX1) (T := TX1) (N := 11) hx hb hts inT_X1 hown hE.1 hP 1 rfl rfl 1 (by decide) (va_Nw.use rfl (hE.2 _ nf_X3_73 rfl)) (fun _ h9 => h9) rfl dX3_findPathHome_21 ?_
        refine z_imul hx hb (((y * k) : Nat) : Int) (by first | omega | exact (Int.natCast_mul _ _).symm) dX3_findPathHome_24 ?_
        refine lv_istore_n (lv' := [(2, .int (zI (((y * k) : Nat) : Int))), (0, .ref x), (1, .int (zI ((L : Nat) : Int))), (3, .int (zI ((i : Nat) : Int)))]) hx hb dX3_findPathHome_25 rfl hl (by decide) rfl (fun ls hl => ?_)
        refine z_iinc (k := 3) (lv' := [(3, .int (zI (((i + 1) : Nat) : Int))), (2, .int (zI (((y * k) : Nat) : Int))), (0, .ref x), (1, .int (zI ((L : Nat) : Int)))]) hx hb (((i + 1) : Nat) : Int) (by omega) dX3_findPathHome_26 hl rfl (by decide) rfl (fun ls hl => ?_)
        refine lv_goto (tgt := 4) hx hb dX3_findPathHome_29 (by decide) ?_
        exact ih_4 (i + 1) (y * k) (zup q i 0) (by omega) (by omega) (by rw [hy, Nat.pow_succ]) (by exact zup_lt (A := fun _ => 0) hq rfl) _ _ _ hP hD hS (lv_sub hl [2, 3, 1, 0] rfl)
  exact cut_4 (L - 0 + 1) 0 1 gp (Nat.lt_succ_self _) (by omega) (by rfl) (by intro j hj; omega) _ _ _ hP hD hS (lv_sub hl [2, 3, 1, 0] rfl)
set_option maxHeartbeats 4000000 in
set_option maxRecDepth 100000 in
theorem c_X3_tellDrawsFrom (l : Launch) (D : va_G) (cI : ClassId) (x : Nat) (b : Nat → Nat) (ik rr hc : Int) (aN : Nat → Nat) (n k d v : Nat) (g2 : Nat → Int) (μ : Nat → Nat → Nat) (gt gs : Nat → Int) (p0 m0 : Nat) (hn : n ≤ 12) (hk : k ≤ 6) (hg2 : ∀ q i, q < k → i < n → g2 (q * 12 + i) = ((μ q i : Nat) : Int)) (hμ : ∀ q i, q < k → i < n → μ q i < n) (hp0 : p0 < n) (hm0 : m0 ≤ 8) (hk1 : 1 ≤ k) : zMv l yX3_tellDrawsFrom cX3_tellDrawsFrom 6 none ({ frames := 1, cells := 0, slots := 0, locals := 48 }) D cI [.ref x, .int (zI ((p0 : Nat) : Int)), .int (zI ((m0 : Nat) : Int))] [cX x b ik rr hc, cT (b 1) aN ((n : Nat) : Int) ((k : Nat) : Int) ((d : Nat) : Int) ((v : Nat) : Int), cR cI (aN 2) 72 g2, cR cI (b 4) 12 gt, cR cI (b 5) 12 gs] (fun (u : (Nat → Int) × (Nat → Int)) => ∀ j, j < n → u.1 j = ((wy μ n k p0 m0 j : Nat) : Int)) (fun (u : (Nat → Int) × (Nat → Int)) => [cX x b ik rr hc, cT (b 1) aN ((n : Nat) : Int) ((k : Nat) : Int) ((d : Nat) : Int) ((v : Nat) : Int), cR cI (aN 2) 72 g2, cR cI (b 4) 12 u.1, cR cI (b 5) 12 u.2]) := by
  intro sz
  refine zstart rfl (by decide) (Nat.le_of_ble_eq_true rfl) ?_
  intro p e s m below meth c ls K hnm hsz hP hD hS hl
  generalize hargs : ([.ref x, .int (zI ((p0 : Nat) : Int)), .int (zI ((m0 : Nat) : Int))] : List Value).toArray = args at K ⊢
  generalize hQf : MQ below _ args s _ _ _ = Qf
  have K : zK p s m args meth c cX3_tellDrawsFrom 6 RX3 none D cI := K
  obtain ⟨hx, hb, hml, hown, hts, hE, -, -⟩ := id K
  have hA := zhA (ws0 := [cX x b ik rr hc, cT (b 1) aN ((n : Nat) : Int) ((k : Nat) : Int) ((d : Nat) : Int) ((v : Nat) : Int), cR cI (aN 2) 72 g2, cR cI (b 4) 12 gt, cR cI (b 5) 12 gs]) hsz
  have hl : lv_has ls 6 [(0, .ref x), (1, .int (zI ((p0 : Nat) : Int))), (2, .int (zI ((m0 : Nat) : Int)))] := hl
  refine lv_aload_n hx hb dX3_tellDrawsFrom_0 rfl (lv_at hl 0 rfl) ?_
  refine va_get (D := D) (ci := 3) (v := .ref (b 4)) (C := RX3) (T := TX3) (N := 10) hx hb hts inT_X3 hown hE.1 hP 0 rfl rfl 7 (by decide) (hts _ qf_X3_33) (fun _ h9 => h9) rfl dX3_tellDrawsFrom_1 ?_
  refine lv_iconst (v := zI 0) hx hb dX3_tellDrawsFrom_4 rfl ?_
  refine zcall_v (wc := [cR cI (b 4) 12 gt]) (wr := [cX x b ik rr hc, cT (b 1) aN ((n : Nat) : Int) ((k : Nat) : Int) ((d : Nat) : Int) ((v : Nat) : Int), cR cI (aN 2) 72 g2, cR cI (b 5) 12 gs]) (rest := []) hE hP hD hS hA [3] [0, 1, 2, 4] [0, 1, 2, 4, 3] rfl rfl (by decide) (by decide) (by decide) (fun (u : Unit) => [cX x b ik rr hc, cT (b 1) aN ((n : Nat) : Int) ((k : Nat) : Int) ((d : Nat) : Int) ((v : Nat) : Int), cR cI (aN 2) 72 g2, cR cI (b 4) 12 (zcp (fun _ => 0) gt 12), cR cI (b 5) 12 gs]) (fun u => rfl) (fun hPc hDc => zrunS (As := [.ref (b 4), .int (zI 0)]) (rest := []) K k_J7_fill_53178 qm_X3_270 ⟨⟨rfl, rfl⟩, ⟨Nat.le_of_ble_eq_true rfl, Nat.le_of_ble_eq_true rfl⟩⟩ hPc hDc (c_J7_fill_53178 l D cI (b 4) 12 0 gt (by first | assumption | omega) _) rfl hl.1 rfl (Nat.le_of_ble_eq_true rfl) dX3_tellDrawsFrom_5 ⟨Nat.zero_le _, Nat.zero_le _⟩) (by decide) (fun u H locs hpost hP hD hS => ?_)
  have hP : va_P D cls [cX x b ik rr hc, cT (b 1) aN ((n : Nat) : Int) ((k : Nat) : Int) ((d : Nat) : Int) ((v : Nat) : Int), cR cI (aN 2) 72 g2, cR cI (b 4) 12 (zcp (fun _ => 0) gt 12), cR cI (b 5) 12 gs] H := hP
  have hD : va_D (va_A [cX x b ik rr hc, cT (b 1) aN ((n : Nat) : Int) ((k : Nat) : Int) ((d : Nat) : Int) ((v : Nat) : Int), cR cI (aN 2) 72 g2, cR cI (b 4) 12 gt, cR cI (b 5) 12 gs] sz) [cX x b ik rr hc, cT (b 1) aN ((n : Nat) : Int) ((k : Nat) : Int) ((d : Nat) : Int) ((v : Nat) : Int), cR cI (aN 2) 72 g2, cR cI (b 4) 12 (zcp (fun _ => 0) gt 12), cR cI (b 5) 12 gs] := hD
  refine lv_aload_n hx hb dX3_tellDrawsFrom_8 rfl (lv_at hl 0 rfl) ?_
  refine va_get (D := D) (ci := 3) (v := .ref (b 4)) (C := RX3) (T := TX3) (N := 10) hx hb hts inT_X3 hown hE.1 hP 0 rfl rfl 7 (by decide) (hts _ qf_X3_33) (fun _ h9 => h9) rfl dX3_tellDrawsFrom_9 ?_
  refine lv_iload_n hx hb dX3_tellDrawsFrom_12 rfl (lv_at hl 1 rfl) ?_
  refine lv_iconst (v := zI 1) hx hb dX3_tellDrawsFrom_13 rfl ?_
  refine z_iast hx hb hE hP hD hS 3 rfl p0 (by omega) (by omega) (by first | decide | omega) (zup (zcp (fun _ => 0) gt 12) p0 1) rfl dX3_tellDrawsFrom_14 (fun H locs hP hD hS => ?_)
  have hP : va_P D cls [cX x b ik rr hc, cT (b 1) aN ((n : Nat) : Int) ((k : Nat) : Int) ((d : Nat) : Int) ((v : Nat) : Int), cR cI (aN 2) 72 g2, cR cI (b 4) 12 (zup (zcp (fun _ => 0) gt 12) p0 1), cR cI (b 5) 12 gs] H := hP
  have hD : va_D (va_A [cX x b ik rr hc, cT (b 1) aN ((n : Nat) : Int) ((k : Nat) : Int) ((d : Nat) : Int) ((v : Nat) : Int), cR cI (aN 2) 72 g2, cR cI (b 4) 12 gt, cR cI (b 5) 12 gs] sz) [cX x b ik rr hc, cT (b 1) aN ((n : Nat) : Int) ((k : Nat) : Int) ((d : Nat) : Int) ((v : Nat) : Int), cR cI (aN 2) 72 g2, cR cI (b 4) 12 (zup (zcp (fun _ => 0) gt 12) p0 1), cR cI (b 5) 12 gs] := hD
  refine lv_iconst (v := zI 0) hx hb dX3_tellDrawsFrom_15 rfl ?_
  refine lv_istore_n (lv' := [(3, .int (zI 0)), (0, .ref x), (1, .int (zI ((p0 : Nat) : Int))), (2, .int (zI ((m0 : Nat) : Int)))]) hx hb dX3_tellDrawsFrom_16 rfl hl (by decide) rfl (fun ls hl => ?_)
  have cut_17 : ∀ (N_17 : Nat), ∀ (i : Nat) (q r : Nat → Int), m0 - i < N_17 → (i ≤ m0) → (∀ j, j < n → q j = ((wy μ n k p0 i j : Nat) : Int)) → ∀ (H : Heap) (locs : List Loc) (ls : Array Slot), va_P D cls [cX x b ik rr hc, cT (b 1) aN ((n : Nat) : Int) ((k : Nat) : Int) ((d : Nat) : Int) ((v : Nat) : Int), cR cI (aN 2) 72 g2, cR cI (b 4) 12 q, cR cI (b 5) 12 r] H → va_D (va_A [cX x b ik rr hc, cT (b 1) aN ((n : Nat) : Int) ((k : Nat) : Int) ((d : Nat) : Int) ((v : Nat) : Int), cR cI (aN 2) 72 g2, cR cI (b 4) 12 gt, cR cI (b 5) 12 gs] sz) [cX x b ik rr hc, cT (b 1) aN ((n : Nat) : Int) ((k : Nat) : Int) ((d : Nat) : Int) ((v : Nat) : Int), cR cI (aN 2) 72 g2, cR cI (b 4) 12 q, cR cI (b 5) 12 r] → va_S (va_A [cX x b ik rr hc, cT (b 1) aN ((n : Nat) : Int) ((k : Nat) : Int) ((d : Nat) : Int) ((v : Nat) : Int), cR cI (aN 2) 72 g2, cR cI (b 4) 12 gt, cR cI (b 5) 12 gs] sz) s.heap H locs → lv_has ls 6 [(0, .ref x), (1, .int (zI ((p0 : Nat) : Int))), (2, .int (zI ((m0 : Nat) : Int))), (3, .int (zI ((i : Nat) : Int)))] → W p l e ({ frames := 1, cells := 0, slots := 0, locals := 48 }) s m args below meth c H locs 0 0 Qf (F0 m 17 ls []) := by
    intro N_17
    induction N_17 with
    | zero => intro i q r hm_17; exact absurd hm_17 (Nat.not_lt_zero _)
    | succ N_17 ih_17 =>
      intro i q r hm_17 hi hq H locs ls hP hD hS hl
      refine lv_iload_n hx hb dX3_tellDrawsFrom_17 rfl (lv_at hl 3 rfl) ?_
      refine lv_iload_n hx hb dX3_tellDrawsFrom_18 rfl (lv_at hl 2 rfl) ?_
      refine z_icmp_ge (tgt := 124) hx hb (by omega) dX3_tellDrawsFrom_19 (by decide) (fun c_19 => ?_) (fun c_19 => ?_)
      · rw [← hQf]
        exact z_vret K hS (q, r) (by (try dsimp only); intro j hj; rw [hq j hj, show i = m0 by omega]) hP hD dX3_tellDrawsFrom_124
      · refine lv_aload_n hx hb dX3_tellDrawsFrom_22 rfl (lv_at hl 0 rfl) ?_
        refine va_get (D := D) (ci := 3) (v := .ref (b 5)) (C := RX3) (T := TX3) (N := 10) hx hb hts inT_X3 hown hE.1 hP 0 rfl rfl 8 (by decide) (hts _ qf_X3_37) (fun _ h9 => h9) rfl dX3_tellDrawsFrom_23 ?_
        refine lv_iconst (v := zI 0) hx hb dX3_tellDrawsFrom_26 rfl ?_
        refine zcall_v (wc := [cR cI (b 5) 12 r]) (wr := [cX x b ik rr hc, cT (b 1) aN ((n : Nat) : Int) ((k : Nat) : Int) ((d : Nat) : Int) ((v : Nat) : Int), cR cI (aN 2) 72 g2, cR cI (b 4) 12 q]) (rest := []) hE hP hD hS hA [4] [0, 1, 2, 3] [0, 1, 2, 3, 4] rfl rfl (by decide) (by decide) (by decide) (fun (u : Unit) => [cX x b ik rr hc, cT (b 1) aN ((n : Nat) : Int) ((k : Nat) : Int) ((d : Nat) : Int) ((v : Nat) : Int), cR cI (aN 2) 72 g2, cR cI (b 4) 12 q, cR cI (b 5) 12 (zcp (fun _ => 0) r 12)]) (fun u => rfl) (fun hPc hDc => zrunS (As := [.ref (b 5), .int (zI 0)]) (rest := []) K k_J7_fill_53178 qm_X3_270 ⟨⟨rfl, rfl⟩, ⟨Nat.le_of_ble_eq_true rfl, Nat.le_of_ble_eq_true rfl⟩⟩ hPc hDc (c_J7_fill_53178 l D cI (b 5) 12 0 r (by first | assumption | omega) _) rfl hl.1 rfl (Nat.le_of_ble_eq_true rfl) dX3_tellDrawsFrom_27 ⟨Nat.zero_le _, Nat.zero_le _⟩) (by decide) (fun u H locs hpost hP hD hS => ?_)
        have hP : va_P D cls [cX x b ik rr hc, cT (b 1) aN ((n : Nat) : Int) ((k : Nat) : Int) ((d : Nat) : Int) ((v : Nat) : Int), cR cI (aN 2) 72 g2, cR cI (b 4) 12 q, cR cI (b 5) 12 (zcp (fun _ => 0) r 12)] H := hP
        have hD : va_D (va_A [cX x b ik rr hc, cT (b 1) aN ((n : Nat) : Int) ((k : Nat) : Int) ((d : Nat) : Int) ((v : Nat) : Int), cR cI (aN 2) 72 g2, cR cI (b 4) 12 gt, cR cI (b 5) 12 gs] sz) [cX x b ik rr hc, cT (b 1) aN ((n : Nat) : Int) ((k : Nat) : Int) ((d : Nat) : Int) ((v : Nat) : Int), cR cI (aN 2) 72 g2, cR cI (b 4) 12 q, cR cI (b 5) 12 (zcp (fun _ => 0) r 12)] := hD
        refine lv_iconst (v := zI 0) hx hb dX3_tellDrawsFrom_30 rfl ?_
        refine lv_istore (lv' := [(4, .int (zI 0)), (0, .ref x), (1, .int (zI ((p0 : Nat) : Int))), (2, .int (zI ((m0 : Nat) : Int))), (3, .int (zI ((i : Nat) : Int)))]) hx hb dX3_tellDrawsFrom_31 hl (by decide) rfl (fun ls hl => ?_)
        have cut_33 : ∀ (N_33 : Nat), ∀ (i1 : Nat) (r1 : Nat → Int), n - i1 < N_33 → (i1 ≤ n) → (∀ j, j < n → r1 j = ((ac μ k (wy μ n k p0 i) j (i1 * k) : Nat) : Int)) → ∀ (H : Heap) (locs : List Loc) (ls : Array Slot), va_P D cls [cX x b ik rr hc, cT (b 1) aN ((n : Nat) : Int) ((k : Nat) : Int) ((d : Nat) : Int) ((v : Nat) : Int), cR cI (aN 2) 72 g2, cR cI (b 4) 12 q, cR cI (b 5) 12 r1] H → va_D (va_A [cX x b ik rr hc, cT (b 1) aN ((n : Nat) : Int) ((k : Nat) : Int) ((d : Nat) : Int) ((v : Nat) : Int), cR cI (aN 2) 72 g2, cR cI (b 4) 12 gt, cR cI (b 5) 12 gs] sz) [cX x b ik rr hc, cT (b 1) aN ((n : Nat) : Int) ((k : Nat) : Int) ((d : Nat) : Int) ((v : Nat) : Int), cR cI (aN 2) 72 g2, cR cI (b 4) 12 q, cR cI (b 5) 12 r1] → va_S (va_A [cX x b ik rr hc, cT (b 1) aN ((n : Nat) : Int) ((k : Nat) : Int) ((d : Nat) : Int) ((v : Nat) : Int), cR cI (aN 2) 72 g2, cR cI (b 4) 12 gt, cR cI (b 5) 12 gs] sz) s.heap H locs → lv_has ls 6 [(0, .ref x), (1, .int (zI ((p0 : Nat) : Int))), (2, .int (zI ((m0 : Nat) : Int))), (3, .int (zI ((i : Nat) : Int))), (4, .int (zI ((i1 : Nat) : Int)))] → W p l e ({ frames := 1, cells := 0, slots := 0, locals := 48 }) s m args below meth c H locs 0 0 Qf (F0 m 33 ls []) := by
          intro N_33
          induction N_33 with
          | zero => intro i1 r1 hm_33; exact absurd hm_33 (Nat.not_lt_zero _)
          | succ N_33 ih_33 =>
            intro i1 r1 hm_33 hi1 hr1 H locs ls hP hD hS hl
            refine lv_iload hx hb dX3_tellDrawsFrom_33 (lv_at hl 4 rfl) ?_
            refine lv_aload_n hx hb dX3_tellDrawsFrom_35 rfl (lv_at hl 0 rfl) ?_
            refine va_get (D := D) (ci := 3) (v := .ref (b 1)) (C := RX3) (T := TX3) (N := 10) hx hb hts inT_X3 hown hE.1 hP 0 rfl rfl 1 (by decide) (hts _ qf_X3_19) (fun _ h9 => h9) rfl dX3_tellDrawsFrom_36 ?_
            refine va_getN (D := D) (ci := 1) (v := .int (zI ((n : Nat) : Int))) (C := RX1) (T := TX1) (N := 11) hx hb hts inT_X1 hown hE.1 hP 1 rfl rfl 0 (by decide) (va_Nw.use rfl (hE.2 _ nf_X3_201 rfl)) (fun _ h9 => h9) rfl dX3_tellDrawsFrom_39 ?_
            refine z_icmp_ge (tgt := 98) hx hb (by omega) dX3_tellDrawsFrom_42 (by decide) (fun c_42 => ?_) (fun c_42 => ?_)
            · refine lv_aload_n hx hb dX3_tellDrawsFrom_98 rfl (lv_at hl 0 rfl) ?_
              refine va_get (D := D) (ci := 3) (v := .ref (b 5)) (C := RX3) (T := TX3) (N := 10) hx hb hts inT_X3 hown hE.1 hP 0 rfl rfl 8 (by decide) (hts _ qf_X3_37) (fun _ h9 => h9) rfl dX3_tellDrawsFrom_99 ?_
              refine lv_iconst (v := zI 0) hx hb dX3_tellDrawsFrom_102 rfl ?_
              refine lv_aload_n hx hb dX3_tellDrawsFrom_103 rfl (lv_at hl 0 rfl) ?_
              refine va_get (D := D) (ci := 3) (v := .ref (b 4)) (C := RX3) (T := TX3) (N := 10) hx hb hts inT_X3 hown hE.1 hP 0 rfl rfl 7 (by decide) (hts _ qf_X3_33) (fun _ h9 => h9) rfl dX3_tellDrawsFrom_104 ?_
              refine lv_iconst (v := zI 0) hx hb dX3_tellDrawsFrom_107 rfl ?_
              refine lv_aload_n hx hb dX3_tellDrawsFrom_108 rfl (lv_at hl 0 rfl) ?_
              refine va_get (D := D) (ci := 3) (v := .ref (b 1)) (C := RX3) (T := TX3) (N := 10) hx hb hts inT_X3 hown hE.1 hP 0 rfl rfl 1 (by decide) (hts _ qf_X3_19) (fun _ h9 => h9) rfl dX3_tellDrawsFrom_109 ?_
              refine va_getN (D := D) (ci := 1) (v := .int (zI ((n : Nat) : Int))) (C := RX1) (T := TX1) (N := 11) hx hb hts inT_X1 hown hE.1 hP 1 rfl rfl 0 (by decide) (va_Nw.use rfl (hE.2 _ nf_X3_201 rfl)) (fun _ h9 => h9) rfl dX3_tellDrawsFrom_112 ?_
              refine z_copy hx hb (by rw [hml]; exact hl.1.symm) hown (hts _ qm_X3_261) (hts _ qv_acopy) (hts _ qs_acopy) (hts _ qn_System) hE hP hD hS 4 3 rfl rfl n (by omega) (by omega) (by decide) (by decide) (by decide) (Nat.le_of_ble_eq_true rfl) (zcp r1 q n) rfl dX3_tellDrawsFrom_115 (fun H locs hP hD hS => ?_)
              have hP : va_P D cls [cX x b ik rr hc, cT (b 1) aN ((n : Nat) : Int) ((k : Nat) : Int) ((d : Nat) : Int) ((v : Nat) : Int), cR cI (aN 2) 72 g2, cR cI (b 4) 12 (zcp r1 q n), cR cI (b 5) 12 r1] H := hP
              have hD : va_D (va_A [cX x b ik rr hc, cT (b 1) aN ((n : Nat) : Int) ((k : Nat) : Int) ((d : Nat) : Int) ((v : Nat) : Int), cR cI (aN 2) 72 g2, cR cI (b 4) 12 gt, cR cI (b 5) 12 gs] sz) [cX x b ik rr hc, cT (b 1) aN ((n : Nat) : Int) ((k : Nat) : Int) ((d : Nat) : Int) ((v : Nat) : Int), cR cI (aN 2) 72 g2, cR cI (b 4) 12 (zcp r1 q n), cR cI (b 5) 12 r1] := hD
              refine z_iinc (k := 3) (lv' := [(3, .int (zI (((i + 1) : Nat) : Int))), (0, .ref x), (1, .int (zI ((p0 : Nat) : Int))), (2, .int (zI ((m0 : Nat) : Int))), (4, .int (zI ((i1 : Nat) : Int)))]) hx hb (((i + 1) : Nat) : Int) (by omega) dX3_tellDrawsFrom_118 hl rfl (by decide) rfl (fun ls hl => ?_)
              refine lv_goto (tgt := 17) hx hb dX3_tellDrawsFrom_121 (by decide) ?_
              exact ih_17 (i + 1) (zcp r1 q n) r1 (by omega) (by omega) (by intro j hj; rw [zcp_lt hj, hr1 j hj, show i1 = n by omega]; rfl) _ _ _ hP hD hS (lv_sub hl [1, 2, 3, 0] rfl)
            · refine lv_iconst (v := zI 0) hx hb dX3_tellDrawsFrom_45 rfl ?_
              refine lv_istore (lv' := [(5, .int (zI 0)), (0, .ref x), (1, .int (zI ((p0 : Nat) : Int))), (2, .int (zI ((m0 : Nat) : Int))), (3, .int (zI ((i : Nat) : Int))), (4, .int (zI ((i1 : Nat) : Int)))]) hx hb dX3_tellDrawsFrom_46 hl (by decide) rfl (fun ls hl => ?_)
              have cut_48 : ∀ (N_48 : Nat), ∀ (i2 : Nat) (r2 : Nat → Int), k - i2 < N_48 → (i2 ≤ k) → (∀ j, j < n → r2 j = ((ac μ k (wy μ n k p0 i) j (i1 * k + i2) : Nat) : Int)) → ∀ (H : Heap) (locs : List Loc) (ls : Array Slot), va_P D cls [cX x b ik rr hc, cT (b 1) aN ((n : Nat) : Int) ((k : Nat) : Int) ((d : Nat) : Int) ((v : Nat) : Int), cR cI (aN 2) 72 g2, cR cI (b 4) 12 q, cR cI (b 5) 12 r2] H → va_D (va_A [cX x b ik rr hc, cT (b 1) aN ((n : Nat) : Int) ((k : Nat) : Int) ((d : Nat) : Int) ((v : Nat) : Int), cR cI (aN 2) 72 g2, cR cI (b 4) 12 gt, cR cI (b 5) 12 gs] sz) [cX x b ik rr hc, cT (b 1) aN ((n : Nat) : Int) ((k : Nat) : Int) ((d : Nat) : Int) ((v : Nat) : Int), cR cI (aN 2) 72 g2, cR cI (b 4) 12 q, cR cI (b 5) 12 r2] → va_S (va_A [cX x b ik rr hc, cT (b 1) aN ((n : Nat) : Int) ((k : Nat) : Int) ((d : Nat) : Int) ((v : Nat) : Int), cR cI (aN 2) 72 g2, cR cI (b 4) 12 gt, cR cI (b 5) 12 gs] sz) s.heap H locs → lv_has ls 6 [(0, .ref x), (1, .int (zI ((p0 : Nat) : Int))), (2, .int (zI ((m0 : Nat) : Int))), (3, .int (zI ((i : Nat) : Int))), (4, .int (zI ((i1 : Nat) : Int))), (5, .int (zI ((i2 : Nat) : Int)))] → W p l e ({ frames := 1, cells := 0, slots := 0, locals := 48 }) s m args below meth c H locs 0 0 Qf (F0 m 48 ls []) := by
                intro N_48
                induction N_48 with
                | zero => intro i2 r2 hm_48; exact absurd hm_48 (Nat.not_lt_zero _)
                | succ N_48 ih_48 =>
                  intro i2 r2 hm_48 hi2 hr2 H locs ls hP hD hS hl
                  refine lv_iload hx hb dX3_tellDrawsFrom_48 (lv_at hl 5 rfl) ?_
                  refine lv_aload_n hx hb dX3_tellDrawsFrom_50 rfl (lv_at hl 0 rfl) ?_
                  refine va_get (D := D) (ci := 3) (v := .ref (b 1)) (C := RX3) (T := TX3) (N := 10) hx hb hts inT_X3 hown hE.1 hP 0 rfl rfl 1 (by decide) (hts _ qf_X3_19) (fun _ h9 => h9) rfl dX3_tellDrawsFrom_51 ?_
                  refine va_getN (D := D) (ci := 1) (v := .int (zI ((k : Nat) : Int))) (C := RX1) (T := TX1) (N := 11) hx hb hts inT_X1 hown hE.1 hP 1 rfl rfl 1 (by decide) (va_Nw.use rfl (hE.2 _ nf_X3_73 rfl)) (fun _ h9 => h9) rfl dX3_tellDrawsFrom_54 ?_
                  refine z_icmp_ge (tgt := 92) hx hb (by omega) dX3_tellDrawsFrom_57 (by decide) (fun c_57 => ?_) (fun c_57 => ?_)
                  · refine z_iinc (k := 4) (lv' := [(4, .int (zI (((i1 + 1) : Nat) : Int))), (0, .ref x), (1, .int (zI ((p0 : Nat) : Int))), (2, .int (zI ((m0 : Nat) : Int))), (3, .int (zI ((i : Nat) : Int))), (5, .int (zI ((i2 : Nat) : Int)))]) hx hb (((i1 + 1) : Nat) : Int) (by omega) dX3_tellDrawsFrom_92 hl rfl (by decide) rfl (fun ls hl => ?_)
                    refine lv_goto (tgt := 33) hx hb dX3_tellDrawsFrom_95 (by decide) ?_
                    exact ih_33 (i1 + 1) r2 (by omega) (by omega) (by intro j hj; rw [hr2 j hj, Nat.succ_mul, show i2 = k by omega]) _ _ _ hP hD hS (lv_sub hl [1, 2, 3, 4, 0] rfl)
                  · refine lv_aload_n hx hb dX3_tellDrawsFrom_60 rfl (lv_at hl 0 rfl) ?_
                    refine va_get (D := D) (ci := 3) (v := .ref (b 5)) (C := RX3) (T := TX3) (N := 10) hx hb hts inT_X3 hown hE.1 hP 0 rfl rfl 8 (by decide) (hts _ qf_X3_37) (fun _ h9 => h9) rfl dX3_tellDrawsFrom_61 ?_
                    refine lv_aload_n hx hb dX3_tellDrawsFrom_64 rfl (lv_at hl 0 rfl) ?_
                    refine va_get (D := D) (ci := 3) (v := .ref (b 1)) (C := RX3) (T := TX3) (N := 10) hx hb hts inT_X3 hown hE.1 hP 0 rfl rfl 1 (by decide) (hts _ qf_X3_19) (fun _ h9 => h9) rfl dX3_tellDrawsFrom_65 ?_
                    refine lv_iload hx hb dX3_tellDrawsFrom_68 (lv_at hl 5 rfl) ?_
                    refine lv_iload hx hb dX3_tellDrawsFrom_70 (lv_at hl 4 rfl) ?_
                    have hμi := hμ i2 i1 (by omega) (by omega)
                    refine zcall_i (wc := [cT (b 1) aN ((n : Nat) : Int) ((k : Nat) : Int) ((d : Nat) : Int) ((v : Nat) : Int), cR cI (aN 2) 72 g2]) (wr := [cX x b ik rr hc, cR cI (b 4) 12 q, cR cI (b 5) 12 r2]) (rest := [.ref (b 5)]) hE hP hD hS hA [1, 2] [0, 3, 4] [0, 3, 4, 1, 2] rfl rfl (by decide) (by decide) (by decide) (fun (u : Unit) => [cX x b ik rr hc, cT (b 1) aN ((n : Nat) : Int) ((k : Nat) : Int) ((d : Nat) : Int) ((v : Nat) : Int), cR cI (aN 2) 72 g2, cR cI (b 4) 12 q, cR cI (b 5) 12 r2]) (fun u => rfl) (fun hPc hDc => zrunVN (As := [.int (zI ((i2 : Nat) : Int)), .int (zI ((i1 : Nat) : Int))]) (rest := [.ref (b 5)]) (q0 := 0) (ci := 1) K k_X1_placeBehind nk_X3_114 ⟨⟨rfl, rfl⟩, ⟨Nat.le_of_ble_eq_true rfl, Nat.le_of_ble_eq_true rfl⟩⟩ rfl rfl hPc hDc (c_X1_placeBehind l D cI (b 1) aN n k d v g2 i2 i1 ((μ i2 i1 : Nat) : Int) (by first | assumption | omega) (by first | assumption | omega) (hg2 i2 i1 (by omega) (by omega)) _) rfl hl.1 rfl (Nat.le_of_ble_eq_true rfl) dX3_tellDrawsFrom_72 ⟨Nat.zero_le _, Nat.zero_le _⟩) (by decide) (fun z u H locs hpost hP hD hS => ?_)
                    subst hpost
                    have hP : va_P D cls [cX x b ik rr hc, cT (b 1) aN ((n : Nat) : Int) ((k : Nat) : Int) ((d : Nat) : Int) ((v : Nat) : Int), cR cI (aN 2) 72 g2, cR cI (b 4) 12 q, cR cI (b 5) 12 r2] H := hP
                    have hD : va_D (va_A [cX x b ik rr hc, cT (b 1) aN ((n : Nat) : Int) ((k : Nat) : Int) ((d : Nat) : Int) ((v : Nat) : Int), cR cI (aN 2) 72 g2, cR cI (b 4) 12 gt, cR cI (b 5) 12 gs] sz) [cX x b ik rr hc, cT (b 1) aN ((n : Nat) : Int) ((k : Nat) : Int) ((d : Nat) : Int) ((v : Nat) : Int), cR cI (aN 2) 72 g2, cR cI (b 4) 12 q, cR cI (b 5) 12 r2] := hD
                    refine W.eq (g2 := F0 m 75 ls [.int (zI ((μ i2 i1 : Nat) : Int)), .ref (b 5)]) rfl ?_
                    refine lv_dup2_11 hx hb dX3_tellDrawsFrom_75 rfl rfl ?_
                    refine z_iald hx hb hE hP 4 rfl (μ i2 i1) (by omega) (by omega) (by first | decide | omega) ((ac μ k (wy μ n k p0 i) (μ i2 i1) (i1 * k + i2) : Nat) : Int) (hr2 _ hμi) dX3_tellDrawsFrom_76 ?_
                    refine lv_aload_n hx hb dX3_tellDrawsFrom_77 rfl (lv_at hl 0 rfl) ?_
                    refine va_get (D := D) (ci := 3) (v := .ref (b 4)) (C := RX3) (T := TX3) (N := 10) hx hb hts inT_X3 hown hE.1 hP 0 rfl rfl 7 (by decide) (hts _ qf_X3_33) (fun _ h9 => h9) rfl dX3_tellDrawsFrom_78 ?_
                    refine lv_iload hx hb dX3_tellDrawsFrom_81 (lv_at hl 4 rfl) ?_
                    refine z_iald hx hb hE hP 3 rfl i1 (by omega) (by omega) (by first | decide | omega) ((wy μ n k p0 i i1 : Nat) : Int) (hq i1 (by omega)) dX3_tellDrawsFrom_83 ?_
                    refine z_iadd hx hb ((((ac μ k (wy μ n k p0 i) (μ i2 i1) (i1 * k + i2)) + (wy μ n k p0 i i1)) : Nat) : Int) (by omega) dX3_tellDrawsFrom_84 ?_
                    refine z_iast hx hb hE hP hD hS 4 rfl (μ i2 i1) (by omega) (by omega) (by first | decide | omega) (zup r2 (μ i2 i1) ((((ac μ k (wy μ n k p0 i) (μ i2 i1) (i1 * k + i2)) + (wy μ n k p0 i i1)) : Nat) : Int)) rfl dX3_tellDrawsFrom_85 (fun H locs hP hD hS => ?_)
                    have hP : va_P D cls [cX x b ik rr hc, cT (b 1) aN ((n : Nat) : Int) ((k : Nat) : Int) ((d : Nat) : Int) ((v : Nat) : Int), cR cI (aN 2) 72 g2, cR cI (b 4) 12 q, cR cI (b 5) 12 (zup r2 (μ i2 i1) ((((ac μ k (wy μ n k p0 i) (μ i2 i1) (i1 * k + i2)) + (wy μ n k p0 i i1)) : Nat) : Int))] H := hP
                    have hD : va_D (va_A [cX x b ik rr hc, cT (b 1) aN ((n : Nat) : Int) ((k : Nat) : Int) ((d : Nat) : Int) ((v : Nat) : Int), cR cI (aN 2) 72 g2, cR cI (b 4) 12 gt, cR cI (b 5) 12 gs] sz) [cX x b ik rr hc, cT (b 1) aN ((n : Nat) : Int) ((k : Nat) : Int) ((d : Nat) : Int) ((v : Nat) : Int), cR cI (aN 2) 72 g2, cR cI (b 4) 12 q, cR cI (b 5) 12 (zup r2 (μ i2 i1) ((((ac μ k (wy μ n k p0 i) (μ i2 i1) (i1 * k + i2)) + (wy μ n k p0 i i1)) : Nat) : Int))] := hD
                    refine z_iinc (k := 5) (lv' := [(5, .int (zI (((i2 + 1) : Nat) : Int))), (0, .ref x), (1, .int (zI ((p0 : Nat) : Int))), (2, .int (zI ((m0 : Nat) : Int))), (3, .int (zI ((i : Nat) : Int))), (4, .int (zI ((i1 : Nat) : Int)))]) hx hb (((i2 + 1) : Nat) : Int) (by omega) dX3_tellDrawsFrom_86 hl rfl (by decide) rfl (fun ls hl => ?_)
                    refine lv_goto (tgt := 48) hx hb dX3_tellDrawsFrom_89 (by decide) ?_
                    exact ih_48 (i2 + 1) (zup r2 (μ i2 i1) ((((ac μ k (wy μ n k p0 i) (μ i2 i1) (i1 * k + i2)) + (wy μ n k p0 i i1)) : Nat) : Int)) (by omega) (by omega) (by intro j hj; rw [ac_at (by omega)]; unfold zup; by_cases h9 : j = μ i2 i1; rw [if_pos h9, if_pos h9.symm, h9]; rw [if_neg h9, if_neg (fun h8 => h9 h8.symm), hr2 j hj]; rfl) _ _ _ hP hD hS (lv_sub hl [1, 2, 3, 4, 5, 0] rfl)
              exact cut_48 (k - 0 + 1) 0 r1 (Nat.lt_succ_self _) (by omega) (by intro j hj; exact hr1 j hj) _ _ _ hP hD hS (lv_sub hl [1, 2, 3, 4, 5, 0] rfl)
        exact cut_33 (n - 0 + 1) 0 (zcp (fun _ => 0) r 12) (Nat.lt_succ_self _) (by omega) (by intro j hj; rw [Nat.zero_mul]; exact zcp_lt (by omega)) _ _ _ hP hD hS (lv_sub hl [1, 2, 3, 4, 0] rfl)
  exact cut_17 (m0 - 0 + 1) 0 (zup (zcp (fun _ => 0) gt 12) p0 1) gs (Nat.lt_succ_self _) (by omega) (by intro j hj; rw [wy]; by_cases h9 : j = p0; rw [h9, zup_s, if_pos rfl]; rfl; rw [zup_n h9, if_neg h9]; exact zcp_lt (by omega)) _ _ _ hP hD hS (lv_sub hl [1, 2, 3, 0] rfl)
set_option maxHeartbeats 4000000 in
set_option maxRecDepth 100000 in
theorem c_X3_drawSteps (l : Launch) (D : va_G) (cI : ClassId) (x : Nat) (b : Nat → Nat) (ik rr hc : Int) (aN : Nat → Nat) (n k d v : Nat) (g2 : Nat → Int) (μ : Nat → Nat → Nat) (wa : Nat) (w0 : Int) (gw : Nat → Int) (m0 s0 : Nat) (hn : n ≤ 12) (hk : k ≤ 6) (hg2 : ∀ q i, q < k → i < n → g2 (q * 12 + i) = ((μ q i : Nat) : Int)) (hμ : ∀ q i, q < k → i < n → μ q i < n) (hm0 : m0 ≤ 99) (hs0 : s0 < 2147483648) (hk1 : 1 ≤ k) : zMi l yX3_drawSteps cX3_drawSteps 6 (some .int) ({ frames := 2, cells := 0, slots := 0, locals := 45 }) D cI [.ref x, .int (zI ((m0 : Nat) : Int)), .int (zI ((s0 : Nat) : Int))] [cX x b ik rr hc, cT (b 1) aN ((n : Nat) : Int) ((k : Nat) : Int) ((d : Nat) : Int) ((v : Nat) : Int), cR cI (aN 2) 72 g2, cW (b 3) wa w0, cR cI wa 12 gw] (fun (z : Int) (u : (Nat → Int)) => (z = (((sdN s0 m0) : Nat) : Int)) ∧ (∀ j, j < n → u j = ((wq μ k s0 m0 j : Nat) : Int))) (fun (u : (Nat → Int)) => [cX x b ik rr hc, cT (b 1) aN ((n : Nat) : Int) ((k : Nat) : Int) ((d : Nat) : Int) ((v : Nat) : Int), cR cI (aN 2) 72 g2, cW (b 3) wa ((n : Nat) : Int), cR cI wa 12 u]) := by
  intro sz
  refine zstart rfl (by decide) (Nat.le_of_ble_eq_true rfl) ?_
  intro p e s m below meth c ls K hnm hsz hP hD hS hl
  generalize hargs : ([.ref x, .int (zI ((m0 : Nat) : Int)), .int (zI ((s0 : Nat) : Int))] : List Value).toArray = args at K ⊢
  generalize hQf : MQ below _ args s _ _ _ = Qf
  have K : zK p s m args meth c cX3_drawSteps 6 RX3 (some .int) D cI := K
  obtain ⟨hx, hb, hml, hown, hts, hE, -, -⟩ := id K
  have hA := zhA (ws0 := [cX x b ik rr hc, cT (b 1) aN ((n : Nat) : Int) ((k : Nat) : Int) ((d : Nat) : Int) ((v : Nat) : Int), cR cI (aN 2) 72 g2, cW (b 3) wa w0, cR cI wa 12 gw]) hsz
  have hl : lv_has ls 6 [(0, .ref x), (1, .int (zI ((m0 : Nat) : Int))), (2, .int (zI ((s0 : Nat) : Int)))] := hl
  refine lv_iload_n hx hb dX3_drawSteps_0 rfl (lv_at hl 2 rfl) ?_
  refine z_i2l hx hb (by omega) dX3_drawSteps_1 ?_
  refine lv_lstore_n (lv' := [(3, .long (zL ((s0 : Nat) : Int))), (0, .ref x), (1, .int (zI ((m0 : Nat) : Int))), (2, .int (zI ((s0 : Nat) : Int)))]) hx hb dX3_drawSteps_2 rfl hl (by decide) rfl (fun ls hl => ?_)
  refine lv_aload_n hx hb dX3_drawSteps_3 rfl (lv_at hl 1 rfl) ?_
  refine va_get (D := D) (ci := 3) (v := .ref (b 3)) (C := RX3) (T := TX3) (N := 10) hx hb hts inT_X3 hown hE.1 hP 0 rfl rfl 6 (by decide) (hts _ qf_X3_29) (fun _ h9 => h9) rfl dX3_drawSteps_4 ?_
  refine lv_aload_n hx hb dX3_drawSteps_7 rfl (lv_at hl 1 rfl) ?_
  refine va_get (D := D) (ci := 3) (v := .ref (b 1)) (C := RX3) (T := TX3) (N := 10) hx hb hts inT_X3 hown hE.1 hP 0 rfl rfl 1 (by decide) (hts _ qf_X3_19) (fun _ h9 => h9) rfl dX3_drawSteps_8 ?_
  refine va_getN (D := D) (ci := 1) (v := .int (zI ((n : Nat) : Int))) (C := RX1) (T := TX1) (N := 11) hx hb hts inT_X1 hown hE.1 hP 1 rfl rfl 0 (by decide) (va_Nw.use rfl (hE.2 _ nf_X3_201 rfl)) (fun _ h9 => h9) rfl dX3_drawSteps_11 ?_
  refine zcall_v (wc := [cW (b 3) wa w0, cR cI wa 12 gw]) (wr := [cX x b ik rr hc, cT (b 1) aN ((n : Nat) : Int) ((k : Nat) : Int) ((d : Nat) : Int) ((v : Nat) : Int), cR cI (aN 2) 72 g2]) (rest := []) hE hP hD hS hA [3, 4] [0, 1, 2] [0, 1, 2, 3, 4] rfl rfl (by decide) (by decide) (by decide) (fun (u : Unit) => [cX x b ik rr hc, cT (b 1) aN ((n : Nat) : Int) ((k : Nat) : Int) ((d : Nat) : Int) ((v : Nat) : Int), cR cI (aN 2) 72 g2, cW (b 3) wa ((n : Nat) : Int), cR cI wa 12 (zcp (fun j => (j : Int)) gw n)]) (fun u => rfl) (fun hPc hDc => zrunVN (As := [.int (zI ((n : Nat) : Int))]) (rest := []) (q0 := 0) (ci := 2) K k_X2_begin nk_X3_254 ⟨⟨rfl, rfl⟩, ⟨Nat.le_of_ble_eq_true rfl, Nat.le_of_ble_eq_true rfl⟩⟩ rfl rfl hPc hDc (c_X2_begin l D cI (b 3) wa w0 n gw (by first | assumption | omega) _) rfl hl.1 rfl (Nat.le_of_ble_eq_true rfl) dX3_drawSteps_14 ⟨Nat.zero_le _, Nat.zero_le _⟩) (by decide) (fun u H locs hpost hP hD hS => ?_)
  have hP : va_P D cls [cX x b ik rr hc, cT (b 1) aN ((n : Nat) : Int) ((k : Nat) : Int) ((d : Nat) : Int) ((v : Nat) : Int), cR cI (aN 2) 72 g2, cW (b 3) wa ((n : Nat) : Int), cR cI wa 12 (zcp (fun j => (j : Int)) gw n)] H := hP
  have hD : va_D (va_A [cX x b ik rr hc, cT (b 1) aN ((n : Nat) : Int) ((k : Nat) : Int) ((d : Nat) : Int) ((v : Nat) : Int), cR cI (aN 2) 72 g2, cW (b 3) wa w0, cR cI wa 12 gw] sz) [cX x b ik rr hc, cT (b 1) aN ((n : Nat) : Int) ((k : Nat) : Int) ((d : Nat) : Int) ((v : Nat) : Int), cR cI (aN 2) 72 g2, cW (b 3) wa ((n : Nat) : Int), cR cI wa 12 (zcp (fun j => (j : Int)) gw n)] := hD
  refine lv_iconst (v := zI 0) hx hb dX3_drawSteps_17 rfl ?_
  refine lv_istore (lv' := [(5, .int (zI 0)), (3, .long (zL ((s0 : Nat) : Int))), (0, .ref x), (1, .int (zI ((m0 : Nat) : Int))), (2, .int (zI ((s0 : Nat) : Int)))]) hx hb dX3_drawSteps_18 hl (by decide) rfl (fun ls hl => ?_)
  have cut_20 : ∀ (N_20 : Nat), ∀ (i : Nat) (q : Nat → Int), m0 - i < N_20 → (i ≤ m0) → (∀ j, j < n → q j = ((wq μ k s0 i j : Nat) : Int) ∧ wq μ k s0 i j < n) → ∀ (H : Heap) (locs : List Loc) (ls : Array Slot), va_P D cls [cX x b ik rr hc, cT (b 1) aN ((n : Nat) : Int) ((k : Nat) : Int) ((d : Nat) : Int) ((v : Nat) : Int), cR cI (aN 2) 72 g2, cW (b 3) wa ((n : Nat) : Int), cR cI wa 12 q] H → va_D (va_A [cX x b ik rr hc, cT (b 1) aN ((n : Nat) : Int) ((k : Nat) : Int) ((d : Nat) : Int) ((v : Nat) : Int), cR cI (aN 2) 72 g2, cW (b 3) wa w0, cR cI wa 12 gw] sz) [cX x b ik rr hc, cT (b 1) aN ((n : Nat) : Int) ((k : Nat) : Int) ((d : Nat) : Int) ((v : Nat) : Int), cR cI (aN 2) 72 g2, cW (b 3) wa ((n : Nat) : Int), cR cI wa 12 q] → va_S (va_A [cX x b ik rr hc, cT (b 1) aN ((n : Nat) : Int) ((k : Nat) : Int) ((d : Nat) : Int) ((v : Nat) : Int), cR cI (aN 2) 72 g2, cW (b 3) wa w0, cR cI wa 12 gw] sz) s.heap H locs → lv_has ls 6 [(0, .ref x), (1, .int (zI ((m0 : Nat) : Int))), (2, .int (zI ((s0 : Nat) : Int))), (3, .long (zL ((sdN s0 i : Nat) : Int))), (5, .int (zI ((i : Nat) : Int)))] → W p l e ({ frames := 2, cells := 0, slots := 0, locals := 45 }) s m args below meth c H locs 0 0 Qf (F0 m 20 ls []) := by
    intro N_20
    induction N_20 with
    | zero => intro i q hm_20; exact absurd hm_20 (Nat.not_lt_zero _)
    | succ N_20 ih_20 =>
      intro i q hm_20 hi hq H locs ls hP hD hS hl
      refine lv_iload hx hb dX3_drawSteps_20 (lv_at hl 4 rfl) ?_
      refine lv_iload_n hx hb dX3_drawSteps_22 rfl (lv_at hl 1 rfl) ?_
      refine z_icmp_ge (tgt := 82) hx hb (by omega) dX3_drawSteps_23 (by decide) (fun c_23 => ?_) (fun c_23 => ?_)
      · refine lv_lload_n hx hb dX3_drawSteps_82 rfl (lv_at hl 3 rfl) ?_
        refine z_l2i hx hb (sdN s0 i) (by first | rfl | omega) dX3_drawSteps_83 ?_
        rw [← hQf]
        exact z_iret K hS (q) ⟨(by rw [show i = m0 by omega]), (by intro j hj; rw [← show i = m0 by omega]; exact (hq j hj).1)⟩ hP hD dX3_drawSteps_84
      · refine lv_aload_n hx hb dX3_drawSteps_26 rfl (lv_at hl 0 rfl) ?_
        refine va_get (D := D) (ci := 3) (v := .ref (b 1)) (C := RX3) (T := TX3) (N := 10) hx hb hts inT_X3 hown hE.1 hP 0 rfl rfl 1 (by decide) (hts _ qf_X3_19) (fun _ h9 => h9) rfl dX3_drawSteps_27 ?_
        refine va_getN (D := D) (ci := 1) (v := .int (zI ((k : Nat) : Int))) (C := RX1) (T := TX1) (N := 11) hx hb hts inT_X1 hown hE.1 hP 1 rfl rfl 1 (by decide) (va_Nw.use rfl (hE.2 _ nf_X3_73 rfl)) (fun _ h9 => h9) rfl dX3_drawSteps_30 ?_
        refine z_if_le (tgt := 82) hx hb (by omega) dX3_drawSteps_33 (by decide) (fun c_33 => ?_) (fun c_33 => ?_)
        · exfalso; omega
        · refine lv_ldc2 (v := zL 1103515245) hx hb hown (hts _ qk_X3_293) dX3_drawSteps_36 ?_
          refine lv_lload_n hx hb dX3_drawSteps_39 rfl (lv_at hl 3 rfl) ?_
          refine z_lmul hx hb (1103515245 * ((sdN s0 i : Nat) : Int)) rfl dX3_drawSteps_40 ?_
          refine lv_ldc2 (v := zL 12345) hx hb hown (hts _ qk_X3_295) dX3_drawSteps_41 ?_
          refine z_ladd hx hb ((1103515245 * ((sdN s0 i : Nat) : Int)) + 12345) rfl dX3_drawSteps_44 ?_
          refine lv_ldc2 (v := zL 2147483648) hx hb hown (hts _ qk_X3_297) dX3_drawSteps_45 ?_
          have hsi := sdN_lt hs0 i
          have hdk : sdN s0 (i + 1) / 65536 % k < k := Nat.mod_lt _ (by omega)
          have hsj := sdN_lt hs0 (i + 1)
          refine z_lrem hx hb (1103515245 * sdN s0 i + 12345) 2147483648 (by first | rfl | omega) (by first | rfl | omega) (by omega) dX3_drawSteps_48 ?_
          refine lv_lstore_n (lv' := [(3, .long (zL (((1103515245 * sdN s0 i + 12345) % 2147483648 : Nat) : Int))), (0, .ref x), (1, .int (zI ((m0 : Nat) : Int))), (2, .int (zI ((s0 : Nat) : Int))), (5, .int (zI ((i : Nat) : Int)))]) hx hb dX3_drawSteps_49 rfl hl (by decide) rfl (fun ls hl => ?_)
          refine lv_aload_n hx hb dX3_drawSteps_50 rfl (lv_at hl 1 rfl) ?_
          refine va_get (D := D) (ci := 3) (v := .ref (b 3)) (C := RX3) (T := TX3) (N := 10) hx hb hts inT_X3 hown hE.1 hP 0 rfl rfl 6 (by decide) (hts _ qf_X3_29) (fun _ h9 => h9) rfl dX3_drawSteps_51 ?_
          refine lv_aload_n hx hb dX3_drawSteps_54 rfl (lv_at hl 1 rfl) ?_
          refine va_get (D := D) (ci := 3) (v := .ref (b 1)) (C := RX3) (T := TX3) (N := 10) hx hb hts inT_X3 hown hE.1 hP 0 rfl rfl 1 (by decide) (hts _ qf_X3_19) (fun _ h9 => h9) rfl dX3_drawSteps_55 ?_
          refine lv_lload_n hx hb dX3_drawSteps_58 rfl (lv_at hl 0 rfl) ?_
          refine lv_ldc2 (v := zL 65536) hx hb hown (hts _ qk_X3_299) dX3_drawSteps_59 ?_
          refine z_ldiv hx hb (sdN s0 (i + 1)) 65536 (by first | rfl | omega) (by first | rfl | omega) (by omega) dX3_drawSteps_62 ?_
          refine lv_aload_n hx hb dX3_drawSteps_63 rfl (lv_at hl 1 rfl) ?_
          refine va_get (D := D) (ci := 3) (v := .ref (b 1)) (C := RX3) (T := TX3) (N := 10) hx hb hts inT_X3 hown hE.1 hP 0 rfl rfl 1 (by decide) (hts _ qf_X3_19) (fun _ h9 => h9) rfl dX3_drawSteps_64 ?_
          refine va_getN (D := D) (ci := 1) (v := .int (zI ((k : Nat) : Int))) (C := RX1) (T := TX1) (N := 11) hx hb hts inT_X1 hown hE.1 hP 1 rfl rfl 1 (by decide) (va_Nw.use rfl (hE.2 _ nf_X3_73 rfl)) (fun _ h9 => h9) rfl dX3_drawSteps_67 ?_
          refine z_i2l hx hb (by omega) dX3_drawSteps_70 ?_
          refine z_lrem hx hb (sdN s0 (i + 1) / 65536) k (by first | rfl | omega) (by first | rfl | omega) (by omega) dX3_drawSteps_71 ?_
          refine z_l2i hx hb (sdN s0 (i + 1) / 65536 % k) (by first | rfl | omega) dX3_drawSteps_72 ?_
          refine zcall_v (wc := [cW (b 3) wa ((n : Nat) : Int), cR cI wa 12 q, cT (b 1) aN ((n : Nat) : Int) ((k : Nat) : Int) ((d : Nat) : Int) ((v : Nat) : Int), cR cI (aN 2) 72 g2]) (wr := [cX x b ik rr hc]) (rest := []) hE hP hD hS hA [3, 4, 1, 2] [0] [0, 3, 4, 1, 2] rfl rfl (by decide) (by decide) (by decide) (fun (u : (Nat → Int)) => [cX x b ik rr hc, cT (b 1) aN ((n : Nat) : Int) ((k : Nat) : Int) ((d : Nat) : Int) ((v : Nat) : Int), cR cI (aN 2) 72 g2, cW (b 3) wa ((n : Nat) : Int), cR cI wa 12 u]) (fun u => rfl) (fun hPc hDc => zrunVN (As := [.ref (b 1), .int (zI (((sdN s0 (i + 1) / 65536 % k) : Nat) : Int))]) (rest := []) (q0 := 0) (ci := 2) K k_X2_add nk_X3_257 ⟨⟨rfl, rfl⟩, ⟨Nat.le_of_ble_eq_true rfl, Nat.le_of_ble_eq_true rfl⟩⟩ rfl rfl hPc hDc (c_X2_add l D cI (b 3) wa n q (wq μ k s0 i) (b 1) aN n k d v g2 (sdN s0 (i + 1) / 65536 % k) (μ (sdN s0 (i + 1) / 65536 % k)) (by first | assumption | omega) (fun j hj => (hq j hj).1) (fun j hj => (hq j hj).2) (by first | assumption | omega) (fun j hj => hg2 _ j hdk hj) _) rfl hl.1 rfl (Nat.le_of_ble_eq_true rfl) dX3_drawSteps_73 ⟨Nat.zero_le _, Nat.zero_le _⟩) (by decide) (fun u H locs hpost hP hD hS => ?_)
          obtain ⟨f_1, hu⟩ : ∃ z, z = u := ⟨_, rfl⟩
          subst hu
          have hf2_73 := hpost
          have hf2_73 : ∀ j, j < n → f_1 j = (((μ (sdN s0 (i + 1) / 65536 % k)) ((wq μ k s0 i) j) : Nat) : Int) := hf2_73
          have hP : va_P D cls [cX x b ik rr hc, cT (b 1) aN ((n : Nat) : Int) ((k : Nat) : Int) ((d : Nat) : Int) ((v : Nat) : Int), cR cI (aN 2) 72 g2, cW (b 3) wa ((n : Nat) : Int), cR cI wa 12 f_1] H := hP
          have hD : va_D (va_A [cX x b ik rr hc, cT (b 1) aN ((n : Nat) : Int) ((k : Nat) : Int) ((d : Nat) : Int) ((v : Nat) : Int), cR cI (aN 2) 72 g2, cW (b 3) wa w0, cR cI wa 12 gw] sz) [cX x b ik rr hc, cT (b 1) aN ((n : Nat) : Int) ((k : Nat) : Int) ((d : Nat) : Int) ((v : Nat) : Int), cR cI (aN 2) 72 g2, cW (b 3) wa ((n : Nat) : Int), cR cI wa 12 f_1] := hD
          refine z_iinc (k := 4) (lv' := [(5, .int (zI (((i + 1) : Nat) : Int))), (3, .long (zL (((1103515245 * sdN s0 i + 12345) % 2147483648 : Nat) : Int))), (0, .ref x), (1, .int (zI ((m0 : Nat) : Int))), (2, .int (zI ((s0 : Nat) : Int)))]) hx hb (((i + 1) : Nat) : Int) (by omega) dX3_drawSteps_76 hl rfl (by decide) rfl (fun ls hl => ?_)
          refine lv_goto (tgt := 20) hx hb dX3_drawSteps_79 (by decide) ?_
          exact ih_20 (i + 1) f_1 (by omega) (by omega) (by exact fun j hj => ⟨hf2_73 j hj, hμ _ _ hdk (hq j hj).2⟩) _ _ _ hP hD hS (lv_sub hl [2, 3, 4, 1, 0] rfl)
  exact cut_20 (m0 - 0 + 1) 0 (zcp (fun j => (j : Int)) gw n) (Nat.lt_succ_self _) (by omega) (by exact fun j hj => ⟨zcp_lt hj, hj⟩) _ _ _ hP hD hS (lv_sub hl [2, 3, 4, 1, 0] rfl)
