set_option maxHeartbeats 4000000 in
set_option maxRecDepth 100000 in
theorem c_X3_at (l : Launch) (D : va_G) (cI : ClassId) (x : Nat) (b : Nat → Nat) (ik rr hc : Int) (aN : Nat → Nat) (n k d v : Nat) (g0 g1 g2 g3 g4 g5 g6 : Nat → Int) (κ ν π ss sf st : Nat → Nat) (y1 : Int) (hT : TI n k d v g0 g1 g2 g3 g4 g5 g6 κ ν π ss sf st) (hy1 : -2147483648 ≤ y1 ∧ y1 < 2147483648) : zMi l yX3_at cX3_at 2 (some .int) ({ frames := 1, cells := 0, slots := 0, locals := 21 }) D cI [.ref x, .int (zI y1)] [cX x b ik rr hc, cT (b 1) aN ((n : Nat) : Int) ((k : Nat) : Int) ((d : Nat) : Int) ((v : Nat) : Int), cR cI (aN 3) 12 g3] (fun (z : Int) (u : Unit) => (z = (fAt n π y1)) ∧ (-2147483648 ≤ z ∧ z < 2147483648)) (fun (u : Unit) => [cX x b ik rr hc, cT (b 1) aN ((n : Nat) : Int) ((k : Nat) : Int) ((d : Nat) : Int) ((v : Nat) : Int), cR cI (aN 3) 12 g3]) := by
  intro sz
  refine zstart rfl (by decide) (Nat.le_of_ble_eq_true rfl) ?_
  intro p e s m below meth c ls K hnm hsz hP hD hS hl
  generalize hargs : ([.ref x, .int (zI y1)] : List Value).toArray = args at K ⊢
  generalize hQf : MQ below _ args s _ _ _ = Qf
  have K : zK p s m args meth c cX3_at 2 RX3 (some .int) D cI := K
  obtain ⟨hx, hb, hml, hown, hts, hE, -, -⟩ := id K
  have hA := zhA (ws0 := [cX x b ik rr hc, cT (b 1) aN ((n : Nat) : Int) ((k : Nat) : Int) ((d : Nat) : Int) ((v : Nat) : Int), cR cI (aN 3) 12 g3]) hsz
  have hl : lv_has ls 2 [(0, .ref x), (1, .int (zI y1))] := hl
  obtain ⟨hnk, hd, hv, hg0, hκ, hg1, hν, hg2, hg3, hπ, hπi, hg4, hss, hg5, hsf, hg6, hst⟩ := id hT
  have hn : n ≤ 12 := by omega
  have hk : k ≤ 6 := by omega
  have hμ := mus_lt (k := k) hn hκ hν
  have hμi := mus_inj (k := k) hn hκ hν
  have hρ : ∀ j, j < n → rdc (mus n κ ν) k j < n := fun j hj => rdc_lt hμ (Nat.le_refl k) hj
  have hρi : inj (rdc (mus n κ ν) k) n := rdc_inj hμ hμi (Nat.le_refl k)
  refine lv_aload_n hx hb dX3_at_0 rfl (lv_at hl 0 rfl) ?_
  refine va_get (D := D) (ci := 3) (v := .ref (b 1)) (C := RX3) (T := TX3) (N := 10) hx hb hts inT_X3 hown hE.1 hP 0 rfl rfl 1 (by decide) (hts _ qf_X3_19) (fun _ h9 => h9) rfl dX3_at_1 ?_
  refine lv_iload_n hx hb dX3_at_4 rfl (lv_at hl 1 rfl) ?_
  refine zcall_i (wc := [cT (b 1) aN ((n : Nat) : Int) ((k : Nat) : Int) ((d : Nat) : Int) ((v : Nat) : Int)]) (wr := [cX x b ik rr hc, cR cI (aN 3) 12 g3]) (rest := []) hE hP hD hS hA [1] [0, 2] [0, 2, 1] rfl rfl (by decide) (by decide) (by decide) (fun (u : Unit) => [cX x b ik rr hc, cT (b 1) aN ((n : Nat) : Int) ((k : Nat) : Int) ((d : Nat) : Int) ((v : Nat) : Int), cR cI (aN 3) 12 g3]) (fun u => rfl) (fun hPc hDc => zrunVN (As := [.int (zI y1)]) (rest := []) (q0 := 0) (ci := 1) K k_X1_hasPlace nk_X3_108 ⟨⟨rfl, rfl⟩, ⟨Nat.le_of_ble_eq_true rfl, Nat.le_of_ble_eq_true rfl⟩⟩ rfl rfl hPc hDc (c_X1_hasPlace l D cI (b 1) aN n k d v y1 (by first | assumption | omega) (by first | assumption | omega) _) rfl hl.1 rfl (Nat.le_of_ble_eq_true rfl) dX3_at_5 ⟨Nat.zero_le _, Nat.zero_le _⟩) (by decide) (fun z u H locs hpost hP hD hS => ?_)
  subst hpost
  have hP : va_P D cls [cX x b ik rr hc, cT (b 1) aN ((n : Nat) : Int) ((k : Nat) : Int) ((d : Nat) : Int) ((v : Nat) : Int), cR cI (aN 3) 12 g3] H := hP
  have hD : va_D (va_A [cX x b ik rr hc, cT (b 1) aN ((n : Nat) : Int) ((k : Nat) : Int) ((d : Nat) : Int) ((v : Nat) : Int), cR cI (aN 3) 12 g3] sz) [cX x b ik rr hc, cT (b 1) aN ((n : Nat) : Int) ((k : Nat) : Int) ((d : Nat) : Int) ((v : Nat) : Int), cR cI (aN 3) 12 g3] := hD
  refine W.eq (g2 := F0 m 8 ls [.int (zI (b01 (0 ≤ y1 ∧ y1 < n)))]) rfl ?_
  refine z_if_eq (tgt := 23) hx hb (by have := b01_r (0 ≤ y1 ∧ y1 < n); omega) dX3_at_8 (by decide) (fun c_8 => ?_) (fun c_8 => ?_)
  · have b_8 := b01_eq c_8
    refine lv_bipush (v := zI (-101)) hx hb dX3_at_23 (by decide) ?_
    rw [← hQf]
    exact z_iret K hS () ⟨(by first | (simp only [fAt, chk_f b_8]; done) | simp only [fAt, chk_t (show q1 < n by omega)]), (by omega)⟩ hP hD dX3_at_25
  · have b_8 := b01_ne c_8
    obtain ⟨q1, rfl⟩ : ∃ q : Nat, y1 = (q : Int) := ⟨y1.toNat, by omega⟩
    have hπq := hπ q1 (by omega)
    refine lv_aload_n hx hb dX3_at_11 rfl (lv_at hl 0 rfl) ?_
    refine va_get (D := D) (ci := 3) (v := .ref (b 1)) (C := RX3) (T := TX3) (N := 10) hx hb hts inT_X3 hown hE.1 hP 0 rfl rfl 1 (by decide) (hts _ qf_X3_19) (fun _ h9 => h9) rfl dX3_at_12 ?_
    refine va_getN (D := D) (ci := 1) (v := .ref (aN 3)) (C := RX1) (T := TX1) (N := 11) hx hb hts inT_X1 hown hE.1 hP 1 rfl rfl 7 (by decide) (va_Nw.use rfl (hE.2 _ nf_X3_111 rfl)) (fun _ h9 => h9) rfl dX3_at_15 ?_
    refine lv_iload_n hx hb dX3_at_18 rfl (lv_at hl 1 rfl) ?_
    refine z_iald hx hb hE hP 2 rfl q1 (by omega) (by omega) (by first | decide | omega) ((π q1 : Nat) : Int) (hg3 q1 (by omega)) dX3_at_19 ?_
    refine lv_goto (tgt := 25) hx hb dX3_at_20 (by decide) ?_
    rw [← hQf]
    exact z_iret K hS () ⟨(by first | (simp only [fAt, chk_f b_8]; done) | simp only [fAt, chk_t (show q1 < n by omega)]), (by omega)⟩ hP hD dX3_at_25
set_option maxHeartbeats 4000000 in
set_option maxRecDepth 100000 in
theorem c_X3_goes (l : Launch) (D : va_G) (cI : ClassId) (x : Nat) (b : Nat → Nat) (ik rr hc : Int) (aN : Nat → Nat) (n k d v : Nat) (g0 g1 g2 g3 g4 g5 g6 : Nat → Int) (κ ν π ss sf st : Nat → Nat) (y1 y2 : Int) (hT : TI n k d v g0 g1 g2 g3 g4 g5 g6 κ ν π ss sf st) (hy1 : -2147483648 ≤ y1 ∧ y1 < 2147483648) (hy2 : -2147483648 ≤ y2 ∧ y2 < 2147483648) : zMi l yX3_goes cX3_goes 3 (some .int) ({ frames := 1, cells := 0, slots := 0, locals := 22 }) D cI [.ref x, .int (zI y1), .int (zI y2)] [cX x b ik rr hc, cT (b 1) aN ((n : Nat) : Int) ((k : Nat) : Int) ((d : Nat) : Int) ((v : Nat) : Int), cR cI (aN 2) 72 g2] (fun (z : Int) (u : Unit) => (z = (fGoes n k κ ν y1 y2)) ∧ (-2147483648 ≤ z ∧ z < 2147483648)) (fun (u : Unit) => [cX x b ik rr hc, cT (b 1) aN ((n : Nat) : Int) ((k : Nat) : Int) ((d : Nat) : Int) ((v : Nat) : Int), cR cI (aN 2) 72 g2]) := by
  intro sz
  refine zstart rfl (by decide) (Nat.le_of_ble_eq_true rfl) ?_
  intro p e s m below meth c ls K hnm hsz hP hD hS hl
  generalize hargs : ([.ref x, .int (zI y1), .int (zI y2)] : List Value).toArray = args at K ⊢
  generalize hQf : MQ below _ args s _ _ _ = Qf
  have K : zK p s m args meth c cX3_goes 3 RX3 (some .int) D cI := K
  obtain ⟨hx, hb, hml, hown, hts, hE, -, -⟩ := id K
  have hA := zhA (ws0 := [cX x b ik rr hc, cT (b 1) aN ((n : Nat) : Int) ((k : Nat) : Int) ((d : Nat) : Int) ((v : Nat) : Int), cR cI (aN 2) 72 g2]) hsz
  have hl : lv_has ls 3 [(0, .ref x), (1, .int (zI y1)), (2, .int (zI y2))] := hl
  obtain ⟨hnk, hd, hv, hg0, hκ, hg1, hν, hg2, hg3, hπ, hπi, hg4, hss, hg5, hsf, hg6, hst⟩ := id hT
  have hn : n ≤ 12 := by omega
  have hk : k ≤ 6 := by omega
  have hμ := mus_lt (k := k) hn hκ hν
  have hμi := mus_inj (k := k) hn hκ hν
  have hρ : ∀ j, j < n → rdc (mus n κ ν) k j < n := fun j hj => rdc_lt hμ (Nat.le_refl k) hj
  have hρi : inj (rdc (mus n κ ν) k) n := rdc_inj hμ hμi (Nat.le_refl k)
  refine lv_aload_n hx hb dX3_goes_0 rfl (lv_at hl 0 rfl) ?_
  refine va_get (D := D) (ci := 3) (v := .ref (b 1)) (C := RX3) (T := TX3) (N := 10) hx hb hts inT_X3 hown hE.1 hP 0 rfl rfl 1 (by decide) (hts _ qf_X3_19) (fun _ h9 => h9) rfl dX3_goes_1 ?_
  refine lv_iload_n hx hb dX3_goes_4 rfl (lv_at hl 1 rfl) ?_
  refine zcall_i (wc := [cT (b 1) aN ((n : Nat) : Int) ((k : Nat) : Int) ((d : Nat) : Int) ((v : Nat) : Int)]) (wr := [cX x b ik rr hc, cR cI (aN 2) 72 g2]) (rest := []) hE hP hD hS hA [1] [0, 2] [0, 2, 1] rfl rfl (by decide) (by decide) (by decide) (fun (u : Unit) => [cX x b ik rr hc, cT (b 1) aN ((n : Nat) : Int) ((k : Nat) : Int) ((d : Nat) : Int) ((v : Nat) : Int), cR cI (aN 2) 72 g2]) (fun u => rfl) (fun hPc hDc => zrunVN (As := [.int (zI y1)]) (rest := []) (q0 := 0) (ci := 1) K k_X1_hasStep nk_X3_76 ⟨⟨rfl, rfl⟩, ⟨Nat.le_of_ble_eq_true rfl, Nat.le_of_ble_eq_true rfl⟩⟩ rfl rfl hPc hDc (c_X1_hasStep l D cI (b 1) aN n k d v y1 (by first | assumption | omega) (by first | assumption | omega) _) rfl hl.1 rfl (Nat.le_of_ble_eq_true rfl) dX3_goes_5 ⟨Nat.zero_le _, Nat.zero_le _⟩) (by decide) (fun z u H locs hpost hP hD hS => ?_)
  subst hpost
  have hP : va_P D cls [cX x b ik rr hc, cT (b 1) aN ((n : Nat) : Int) ((k : Nat) : Int) ((d : Nat) : Int) ((v : Nat) : Int), cR cI (aN 2) 72 g2] H := hP
  have hD : va_D (va_A [cX x b ik rr hc, cT (b 1) aN ((n : Nat) : Int) ((k : Nat) : Int) ((d : Nat) : Int) ((v : Nat) : Int), cR cI (aN 2) 72 g2] sz) [cX x b ik rr hc, cT (b 1) aN ((n : Nat) : Int) ((k : Nat) : Int) ((d : Nat) : Int) ((v : Nat) : Int), cR cI (aN 2) 72 g2] := hD
  refine W.eq (g2 := F0 m 8 ls [.int (zI (b01 (0 ≤ y1 ∧ y1 < k)))]) rfl ?_
  refine z_if_eq (tgt := 22) hx hb (by have := b01_r (0 ≤ y1 ∧ y1 < k); omega) dX3_goes_8 (by decide) (fun c_8 => ?_) (fun c_8 => ?_)
  · have b_8 := b01_eq c_8
    refine lv_bipush (v := zI (-101)) hx hb dX3_goes_22 (by decide) ?_
    rw [← hQf]
    exact z_iret K hS () ⟨(by first | (simp only [fGoes, chk_f b_8]; done) | simp only [fGoes, chk_t (show q1 < k by omega), chk_f b_19]), (by omega)⟩ hP hD dX3_goes_24
  · have b_8 := b01_ne c_8
    obtain ⟨q1, rfl⟩ : ∃ q : Nat, y1 = (q : Int) := ⟨y1.toNat, by omega⟩
    refine lv_aload_n hx hb dX3_goes_11 rfl (lv_at hl 0 rfl) ?_
    refine va_get (D := D) (ci := 3) (v := .ref (b 1)) (C := RX3) (T := TX3) (N := 10) hx hb hts inT_X3 hown hE.1 hP 0 rfl rfl 1 (by decide) (hts _ qf_X3_19) (fun _ h9 => h9) rfl dX3_goes_12 ?_
    refine lv_iload_n hx hb dX3_goes_15 rfl (lv_at hl 2 rfl) ?_
    refine zcall_i (wc := [cT (b 1) aN ((n : Nat) : Int) ((k : Nat) : Int) ((d : Nat) : Int) ((v : Nat) : Int)]) (wr := [cX x b ik rr hc, cR cI (aN 2) 72 g2]) (rest := []) hE hP hD hS hA [1] [0, 2] [0, 2, 1] rfl rfl (by decide) (by decide) (by decide) (fun (u : Unit) => [cX x b ik rr hc, cT (b 1) aN ((n : Nat) : Int) ((k : Nat) : Int) ((d : Nat) : Int) ((v : Nat) : Int), cR cI (aN 2) 72 g2]) (fun u => rfl) (fun hPc hDc => zrunVN (As := [.int (zI y2)]) (rest := []) (q0 := 0) (ci := 1) K k_X1_hasPlace nk_X3_108 ⟨⟨rfl, rfl⟩, ⟨Nat.le_of_ble_eq_true rfl, Nat.le_of_ble_eq_true rfl⟩⟩ rfl rfl hPc hDc (c_X1_hasPlace l D cI (b 1) aN n k d v y2 (by first | assumption | omega) (by first | assumption | omega) _) rfl hl.1 rfl (Nat.le_of_ble_eq_true rfl) dX3_goes_16 ⟨Nat.zero_le _, Nat.zero_le _⟩) (by decide) (fun z u H locs hpost hP hD hS => ?_)
    subst hpost
    have hP : va_P D cls [cX x b ik rr hc, cT (b 1) aN ((n : Nat) : Int) ((k : Nat) : Int) ((d : Nat) : Int) ((v : Nat) : Int), cR cI (aN 2) 72 g2] H := hP
    have hD : va_D (va_A [cX x b ik rr hc, cT (b 1) aN ((n : Nat) : Int) ((k : Nat) : Int) ((d : Nat) : Int) ((v : Nat) : Int), cR cI (aN 2) 72 g2] sz) [cX x b ik rr hc, cT (b 1) aN ((n : Nat) : Int) ((k : Nat) : Int) ((d : Nat) : Int) ((v : Nat) : Int), cR cI (aN 2) 72 g2] := hD
    refine W.eq (g2 := F0 m 19 ls [.int (zI (b01 (0 ≤ y2 ∧ y2 < n)))]) rfl ?_
    refine z_if_ne (tgt := 25) hx hb (by have := b01_r (0 ≤ y2 ∧ y2 < n); omega) dX3_goes_19 (by decide) (fun c_19 => ?_) (fun c_19 => ?_)
    · have b_19 := b01_ne c_19
      obtain ⟨q2, rfl⟩ : ∃ q : Nat, y2 = (q : Int) := ⟨y2.toNat, by omega⟩
      have hmq := hμ q1 q2 (by omega) (by omega)
      refine lv_aload_n hx hb dX3_goes_25 rfl (lv_at hl 0 rfl) ?_
      refine va_get (D := D) (ci := 3) (v := .ref (b 1)) (C := RX3) (T := TX3) (N := 10) hx hb hts inT_X3 hown hE.1 hP 0 rfl rfl 1 (by decide) (hts _ qf_X3_19) (fun _ h9 => h9) rfl dX3_goes_26 ?_
      refine lv_iload_n hx hb dX3_goes_29 rfl (lv_at hl 1 rfl) ?_
      refine lv_iload_n hx hb dX3_goes_30 rfl (lv_at hl 2 rfl) ?_
      refine zcall_i (wc := [cT (b 1) aN ((n : Nat) : Int) ((k : Nat) : Int) ((d : Nat) : Int) ((v : Nat) : Int), cR cI (aN 2) 72 g2]) (wr := [cX x b ik rr hc]) (rest := []) hE hP hD hS hA [1, 2] [0] [0, 1, 2] rfl rfl (by decide) (by decide) (by decide) (fun (u : Unit) => [cX x b ik rr hc, cT (b 1) aN ((n : Nat) : Int) ((k : Nat) : Int) ((d : Nat) : Int) ((v : Nat) : Int), cR cI (aN 2) 72 g2]) (fun u => rfl) (fun hPc hDc => zrunVN (As := [.int (zI ((q1 : Nat) : Int)), .int (zI ((q2 : Nat) : Int))]) (rest := []) (q0 := 0) (ci := 1) K k_X1_placeBehind nk_X3_114 ⟨⟨rfl, rfl⟩, ⟨Nat.le_of_ble_eq_true rfl, Nat.le_of_ble_eq_true rfl⟩⟩ rfl rfl hPc hDc (c_X1_placeBehind l D cI (b 1) aN n k d v g2 q1 q2 ((mus n κ ν q1 q2 : Nat) : Int) (by first | assumption | omega) (by first | assumption | omega) (hg2 q1 q2 (by omega) (by omega)) _) rfl hl.1 rfl (Nat.le_of_ble_eq_true rfl) dX3_goes_31 ⟨Nat.zero_le _, Nat.zero_le _⟩) (by decide) (fun z u H locs hpost hP hD hS => ?_)
      subst hpost
      have hP : va_P D cls [cX x b ik rr hc, cT (b 1) aN ((n : Nat) : Int) ((k : Nat) : Int) ((d : Nat) : Int) ((v : Nat) : Int), cR cI (aN 2) 72 g2] H := hP
      have hD : va_D (va_A [cX x b ik rr hc, cT (b 1) aN ((n : Nat) : Int) ((k : Nat) : Int) ((d : Nat) : Int) ((v : Nat) : Int), cR cI (aN 2) 72 g2] sz) [cX x b ik rr hc, cT (b 1) aN ((n : Nat) : Int) ((k : Nat) : Int) ((d : Nat) : Int) ((v : Nat) : Int), cR cI (aN 2) 72 g2] := hD
      refine W.eq (g2 := F0 m 34 ls [.int (zI ((mus n κ ν q1 q2 : Nat) : Int))]) rfl ?_
      rw [← hQf]
      exact z_iret K hS () ⟨(by simp only [fGoes, chk_t (show q1 < k by omega), chk_t (show q2 < n by omega)]), (by omega)⟩ hP hD dX3_goes_34
    · have b_19 := b01_eq c_19
      refine lv_bipush (v := zI (-101)) hx hb dX3_goes_22 (by decide) ?_
      rw [← hQf]
      exact z_iret K hS () ⟨(by first | (simp only [fGoes, chk_f b_8]; done) | simp only [fGoes, chk_t (show q1 < k by omega), chk_f b_19]), (by omega)⟩ hP hD dX3_goes_24
set_option maxHeartbeats 4000000 in
set_option maxRecDepth 100000 in
theorem c_X3_round (l : Launch) (D : va_G) (cI : ClassId) (x : Nat) (b : Nat → Nat) (ik rr hc : Int) (aN : Nat → Nat) (n k d v : Nat) (g0 g1 g2 g3 g4 g5 g6 : Nat → Int) (κ ν π ss sf st : Nat → Nat) (wa : Nat) (w0 : Int) (gw : Nat → Int) (y1 : Int) (hT : TI n k d v g0 g1 g2 g3 g4 g5 g6 κ ν π ss sf st) (hy1 : -2147483648 ≤ y1 ∧ y1 < 2147483648) : zMi l yX3_round cX3_round 2 (some .int) ({ frames := 3, cells := 0, slots := 0, locals := 66 }) D cI [.ref x, .int (zI y1)] [cX x b ik rr hc, cT (b 1) aN ((n : Nat) : Int) ((k : Nat) : Int) ((d : Nat) : Int) ((v : Nat) : Int), cR cI (aN 2) 72 g2, cW (b 3) wa w0, cR cI wa 12 gw] (fun (z : Int) (u : (Int) × (Nat → Int)) => (z = (fRound n k κ ν y1)) ∧ (-2147483648 ≤ z ∧ z < 2147483648)) (fun (u : (Int) × (Nat → Int)) => [cX x b ik rr hc, cT (b 1) aN ((n : Nat) : Int) ((k : Nat) : Int) ((d : Nat) : Int) ((v : Nat) : Int), cR cI (aN 2) 72 g2, cW (b 3) wa u.1, cR cI wa 12 u.2]) := by
  intro sz
  refine zstart rfl (by decide) (Nat.le_of_ble_eq_true rfl) ?_
  intro p e s m below meth c ls K hnm hsz hP hD hS hl
  generalize hargs : ([.ref x, .int (zI y1)] : List Value).toArray = args at K ⊢
  generalize hQf : MQ below _ args s _ _ _ = Qf
  have K : zK p s m args meth c cX3_round 2 RX3 (some .int) D cI := K
  obtain ⟨hx, hb, hml, hown, hts, hE, -, -⟩ := id K
  have hA := zhA (ws0 := [cX x b ik rr hc, cT (b 1) aN ((n : Nat) : Int) ((k : Nat) : Int) ((d : Nat) : Int) ((v : Nat) : Int), cR cI (aN 2) 72 g2, cW (b 3) wa w0, cR cI wa 12 gw]) hsz
  have hl : lv_has ls 2 [(0, .ref x), (1, .int (zI y1))] := hl
  obtain ⟨hnk, hd, hv, hg0, hκ, hg1, hν, hg2, hg3, hπ, hπi, hg4, hss, hg5, hsf, hg6, hst⟩ := id hT
  have hn : n ≤ 12 := by omega
  have hk : k ≤ 6 := by omega
  have hμ := mus_lt (k := k) hn hκ hν
  have hμi := mus_inj (k := k) hn hκ hν
  have hρ : ∀ j, j < n → rdc (mus n κ ν) k j < n := fun j hj => rdc_lt hμ (Nat.le_refl k) hj
  have hρi : inj (rdc (mus n κ ν) k) n := rdc_inj hμ hμi (Nat.le_refl k)
  refine lv_aload_n hx hb dX3_round_0 rfl (lv_at hl 0 rfl) ?_
  refine va_get (D := D) (ci := 3) (v := .ref (b 1)) (C := RX3) (T := TX3) (N := 10) hx hb hts inT_X3 hown hE.1 hP 0 rfl rfl 1 (by decide) (hts _ qf_X3_19) (fun _ h9 => h9) rfl dX3_round_1 ?_
  refine lv_iload_n hx hb dX3_round_4 rfl (lv_at hl 1 rfl) ?_
  refine zcall_i (wc := [cT (b 1) aN ((n : Nat) : Int) ((k : Nat) : Int) ((d : Nat) : Int) ((v : Nat) : Int)]) (wr := [cX x b ik rr hc, cR cI (aN 2) 72 g2, cW (b 3) wa w0, cR cI wa 12 gw]) (rest := []) hE hP hD hS hA [1] [0, 2, 3, 4] [0, 4, 1, 2, 3] rfl rfl (by decide) (by decide) (by decide) (fun (u : Unit) => [cX x b ik rr hc, cT (b 1) aN ((n : Nat) : Int) ((k : Nat) : Int) ((d : Nat) : Int) ((v : Nat) : Int), cR cI (aN 2) 72 g2, cW (b 3) wa w0, cR cI wa 12 gw]) (fun u => rfl) (fun hPc hDc => zrunVN (As := [.int (zI y1)]) (rest := []) (q0 := 0) (ci := 1) K k_X1_hasPlace nk_X3_108 ⟨⟨rfl, rfl⟩, ⟨Nat.le_of_ble_eq_true rfl, Nat.le_of_ble_eq_true rfl⟩⟩ rfl rfl hPc hDc (c_X1_hasPlace l D cI (b 1) aN n k d v y1 (by first | assumption | omega) (by first | assumption | omega) _) rfl hl.1 rfl (Nat.le_of_ble_eq_true rfl) dX3_round_5 ⟨Nat.zero_le _, Nat.zero_le _⟩) (by decide) (fun z u H locs hpost hP hD hS => ?_)
  subst hpost
  have hP : va_P D cls [cX x b ik rr hc, cT (b 1) aN ((n : Nat) : Int) ((k : Nat) : Int) ((d : Nat) : Int) ((v : Nat) : Int), cR cI (aN 2) 72 g2, cW (b 3) wa w0, cR cI wa 12 gw] H := hP
  have hD : va_D (va_A [cX x b ik rr hc, cT (b 1) aN ((n : Nat) : Int) ((k : Nat) : Int) ((d : Nat) : Int) ((v : Nat) : Int), cR cI (aN 2) 72 g2, cW (b 3) wa w0, cR cI wa 12 gw] sz) [cX x b ik rr hc, cT (b 1) aN ((n : Nat) : Int) ((k : Nat) : Int) ((d : Nat) : Int) ((v : Nat) : Int), cR cI (aN 2) 72 g2, cW (b 3) wa w0, cR cI wa 12 gw] := hD
  refine W.eq (g2 := F0 m 8 ls [.int (zI (b01 (0 ≤ y1 ∧ y1 < n)))]) rfl ?_
  refine z_if_eq (tgt := 23) hx hb (by have := b01_r (0 ≤ y1 ∧ y1 < n); omega) dX3_round_8 (by decide) (fun c_8 => ?_) (fun c_8 => ?_)
  · have b_8 := b01_eq c_8
    refine lv_bipush (v := zI (-101)) hx hb dX3_round_23 (by decide) ?_
    rw [← hQf]
    exact z_iret K hS (w0, gw) ⟨(by first | (simp only [fRound, chk_f b_8]; done) | simp only [fRound, chk_t (show q1 < n by omega)]), (by (try dsimp only); omega)⟩ hP hD dX3_round_25
  · have b_8 := b01_ne c_8
    obtain ⟨q1, rfl⟩ : ∃ q : Nat, y1 = (q : Int) := ⟨y1.toNat, by omega⟩
    have hrq := hρ q1 (by omega)
    refine lv_aload_n hx hb dX3_round_11 rfl (lv_at hl 0 rfl) ?_
    refine zcall_r (wc := [cX x b ik rr hc, cT (b 1) aN ((n : Nat) : Int) ((k : Nat) : Int) ((d : Nat) : Int) ((v : Nat) : Int), cR cI (aN 2) 72 g2, cW (b 3) wa w0, cR cI wa 12 gw]) (wr := []) (rest := []) hE hP hD hS hA [0, 1, 2, 3, 4] [] [0, 1, 2, 3, 4] rfl rfl (by decide) (by decide) (by decide) (fun (u : (Nat → Int)) => [cX x b ik rr hc, cT (b 1) aN ((n : Nat) : Int) ((k : Nat) : Int) ((d : Nat) : Int) ((v : Nat) : Int), cR cI (aN 2) 72 g2, cW (b 3) wa ((n : Nat) : Int), cR cI wa 12 u]) (fun u => rfl) (fun hPc hDc => zrunV (As := []) (rest := []) (q0 := 0) (ci := 3) K k_X3_wayOfRoutine qm_X3_127 ⟨⟨rfl, rfl⟩, ⟨Nat.le_of_ble_eq_true rfl, Nat.le_of_ble_eq_true rfl⟩⟩ rfl rfl hPc hDc (c_X3_wayOfRoutine l D cI x b ik rr hc aN n k d v g2 (mus n κ ν) wa w0 gw (by first | assumption | omega) (by first | assumption | omega) (by first | assumption | omega) (by first | assumption | omega) _) rfl hl.1 rfl (Nat.le_of_ble_eq_true rfl) dX3_round_12 ⟨Nat.zero_le _, Nat.zero_le _⟩) (by decide) (fun u H locs hpost hP hD hS => ?_)
    obtain ⟨f_1, hu⟩ : ∃ z, z = u := ⟨_, rfl⟩
    subst hu
    have hf2_12 := hpost
    have hf2_12 : ∀ j, j < n → f_1 j = ((rdc (mus n κ ν) k j : Nat) : Int) := hf2_12
    have hP : va_P D cls [cX x b ik rr hc, cT (b 1) aN ((n : Nat) : Int) ((k : Nat) : Int) ((d : Nat) : Int) ((v : Nat) : Int), cR cI (aN 2) 72 g2, cW (b 3) wa ((n : Nat) : Int), cR cI wa 12 f_1] H := hP
    have hD : va_D (va_A [cX x b ik rr hc, cT (b 1) aN ((n : Nat) : Int) ((k : Nat) : Int) ((d : Nat) : Int) ((v : Nat) : Int), cR cI (aN 2) 72 g2, cW (b 3) wa w0, cR cI wa 12 gw] sz) [cX x b ik rr hc, cT (b 1) aN ((n : Nat) : Int) ((k : Nat) : Int) ((d : Nat) : Int) ((v : Nat) : Int), cR cI (aN 2) 72 g2, cW (b 3) wa ((n : Nat) : Int), cR cI wa 12 f_1] := hD
    refine va_getN (D := D) (ci := 2) (v := .ref wa) (C := RX2) (T := TX2) (N := 2) hx hb hts inT_X2 hown hE.1 hP 3 rfl rfl 1 (by decide) (va_Nw.use rfl (hE.2 _ nf_X3_141 rfl)) (fun _ h9 => h9) rfl dX3_round_15 ?_
    refine lv_iload_n hx hb dX3_round_18 rfl (lv_at hl 1 rfl) ?_
    refine z_iald hx hb hE hP 4 rfl q1 (by omega) (by omega) (by first | decide | omega) ((rdc (mus n κ ν) k q1 : Nat) : Int) (hf2_12 q1 (by omega)) dX3_round_19 ?_
    refine lv_goto (tgt := 25) hx hb dX3_round_20 (by decide) ?_
    rw [← hQf]
    exact z_iret K hS (((n : Nat) : Int), f_1) ⟨(by first | (simp only [fRound, chk_f b_8]; done) | simp only [fRound, chk_t (show q1 < n by omega)]), (by (try dsimp only); omega)⟩ hP hD dX3_round_25
set_option maxHeartbeats 4000000 in
set_option maxRecDepth 100000 in
theorem c_X3_after (l : Launch) (D : va_G) (cI : ClassId) (x : Nat) (b : Nat → Nat) (ik rr hc : Int) (aN : Nat → Nat) (n k d v : Nat) (g0 g1 g2 g3 g4 g5 g6 : Nat → Int) (κ ν π ss sf st : Nat → Nat) (wa : Nat) (w0 : Int) (gw : Nat → Int) (y1 y2 : Int) (hT : TI n k d v g0 g1 g2 g3 g4 g5 g6 κ ν π ss sf st) (hy1 : -2147483648 ≤ y1 ∧ y1 < 2147483648) (hy2 : -2147483648 ≤ y2 ∧ y2 < 2147483648) : zMi l yX3_after cX3_after 3 (some .int) ({ frames := 3, cells := 0, slots := 0, locals := 66 }) D cI [.ref x, .int (zI y1), .int (zI y2)] [cX x b ik rr hc, cT (b 1) aN ((n : Nat) : Int) ((k : Nat) : Int) ((d : Nat) : Int) ((v : Nat) : Int), cR cI (aN 2) 72 g2, cW (b 3) wa w0, cR cI wa 12 gw] (fun (z : Int) (u : (Int) × (Nat → Int)) => (z = (fAfter n k κ ν y1 y2)) ∧ (-2147483648 ≤ z ∧ z < 2147483648)) (fun (u : (Int) × (Nat → Int)) => [cX x b ik rr hc, cT (b 1) aN ((n : Nat) : Int) ((k : Nat) : Int) ((d : Nat) : Int) ((v : Nat) : Int), cR cI (aN 2) 72 g2, cW (b 3) wa u.1, cR cI wa 12 u.2]) := by
  intro sz
  refine zstart rfl (by decide) (Nat.le_of_ble_eq_true rfl) ?_
  intro p e s m below meth c ls K hnm hsz hP hD hS hl
  generalize hargs : ([.ref x, .int (zI y1), .int (zI y2)] : List Value).toArray = args at K ⊢
  generalize hQf : MQ below _ args s _ _ _ = Qf
  have K : zK p s m args meth c cX3_after 3 RX3 (some .int) D cI := K
  obtain ⟨hx, hb, hml, hown, hts, hE, -, -⟩ := id K
  have hA := zhA (ws0 := [cX x b ik rr hc, cT (b 1) aN ((n : Nat) : Int) ((k : Nat) : Int) ((d : Nat) : Int) ((v : Nat) : Int), cR cI (aN 2) 72 g2, cW (b 3) wa w0, cR cI wa 12 gw]) hsz
  have hl : lv_has ls 3 [(0, .ref x), (1, .int (zI y1)), (2, .int (zI y2))] := hl
  obtain ⟨hnk, hd, hv, hg0, hκ, hg1, hν, hg2, hg3, hπ, hπi, hg4, hss, hg5, hsf, hg6, hst⟩ := id hT
  have hn : n ≤ 12 := by omega
  have hk : k ≤ 6 := by omega
  have hμ := mus_lt (k := k) hn hκ hν
  have hμi := mus_inj (k := k) hn hκ hν
  have hρ : ∀ j, j < n → rdc (mus n κ ν) k j < n := fun j hj => rdc_lt hμ (Nat.le_refl k) hj
  have hρi : inj (rdc (mus n κ ν) k) n := rdc_inj hμ hμi (Nat.le_refl k)
  refine lv_aload_n hx hb dX3_after_0 rfl (lv_at hl 0 rfl) ?_
  refine va_get (D := D) (ci := 3) (v := .ref (b 1)) (C := RX3) (T := TX3) (N := 10) hx hb hts inT_X3 hown hE.1 hP 0 rfl rfl 1 (by decide) (hts _ qf_X3_19) (fun _ h9 => h9) rfl dX3_after_1 ?_
  refine lv_iload_n hx hb dX3_after_4 rfl (lv_at hl 1 rfl) ?_
  refine zcall_i (wc := [cT (b 1) aN ((n : Nat) : Int) ((k : Nat) : Int) ((d : Nat) : Int) ((v : Nat) : Int)]) (wr := [cX x b ik rr hc, cR cI (aN 2) 72 g2, cW (b 3) wa w0, cR cI wa 12 gw]) (rest := []) hE hP hD hS hA [1] [0, 2, 3, 4] [0, 4, 1, 2, 3] rfl rfl (by decide) (by decide) (by decide) (fun (u : Unit) => [cX x b ik rr hc, cT (b 1) aN ((n : Nat) : Int) ((k : Nat) : Int) ((d : Nat) : Int) ((v : Nat) : Int), cR cI (aN 2) 72 g2, cW (b 3) wa w0, cR cI wa 12 gw]) (fun u => rfl) (fun hPc hDc => zrunVN (As := [.int (zI y1)]) (rest := []) (q0 := 0) (ci := 1) K k_X1_hasPlace nk_X3_108 ⟨⟨rfl, rfl⟩, ⟨Nat.le_of_ble_eq_true rfl, Nat.le_of_ble_eq_true rfl⟩⟩ rfl rfl hPc hDc (c_X1_hasPlace l D cI (b 1) aN n k d v y1 (by first | assumption | omega) (by first | assumption | omega) _) rfl hl.1 rfl (Nat.le_of_ble_eq_true rfl) dX3_after_5 ⟨Nat.zero_le _, Nat.zero_le _⟩) (by decide) (fun z u H locs hpost hP hD hS => ?_)
  subst hpost
  have hP : va_P D cls [cX x b ik rr hc, cT (b 1) aN ((n : Nat) : Int) ((k : Nat) : Int) ((d : Nat) : Int) ((v : Nat) : Int), cR cI (aN 2) 72 g2, cW (b 3) wa w0, cR cI wa 12 gw] H := hP
  have hD : va_D (va_A [cX x b ik rr hc, cT (b 1) aN ((n : Nat) : Int) ((k : Nat) : Int) ((d : Nat) : Int) ((v : Nat) : Int), cR cI (aN 2) 72 g2, cW (b 3) wa w0, cR cI wa 12 gw] sz) [cX x b ik rr hc, cT (b 1) aN ((n : Nat) : Int) ((k : Nat) : Int) ((d : Nat) : Int) ((v : Nat) : Int), cR cI (aN 2) 72 g2, cW (b 3) wa w0, cR cI wa 12 gw] := hD
  refine W.eq (g2 := F0 m 8 ls [.int (zI (b01 (0 ≤ y1 ∧ y1 < n)))]) rfl ?_
  refine z_if_ne (tgt := 14) hx hb (by have := b01_r (0 ≤ y1 ∧ y1 < n); omega) dX3_after_8 (by decide) (fun c_8 => ?_) (fun c_8 => ?_)
  · have b_8 := b01_ne c_8
    obtain ⟨q1, rfl⟩ : ∃ q : Nat, y1 = (q : Int) := ⟨y1.toNat, by omega⟩
    refine lv_iload_n hx hb dX3_after_14 rfl (lv_at hl 2 rfl) ?_
    refine z_if_lt (tgt := 24) hx hb (by omega) dX3_after_15 (by decide) (fun c_15 => ?_) (fun c_15 => ?_)
    · refine lv_bipush (v := zI (-102)) hx hb dX3_after_24 (by decide) ?_
      rw [← hQf]
      exact z_iret K hS (w0, gw) ⟨(by simp only [fAfter, chk_t (show q1 < n by omega)]; rw [chk_f (by omega)]), (by (try dsimp only); omega)⟩ hP hD dX3_after_26
    · refine lv_iload_n hx hb dX3_after_18 rfl (lv_at hl 2 rfl) ?_
      refine lv_ldc (v := zI 1000000000) hx hb hown (hts _ qk_X3_144) dX3_after_19 ?_
      refine z_icmp_le (tgt := 27) hx hb (by omega) dX3_after_21 (by decide) (fun c_21 => ?_) (fun c_21 => ?_)
      · obtain ⟨q2, rfl⟩ : ∃ q : Nat, y2 = (q : Int) := ⟨y2.toNat, by omega⟩
        have hit := it_lt hρ (q2 % rl (rdc (mus n κ ν) k) n q1) (show q1 < n by omega)
        refine lv_aload_n hx hb dX3_after_27 rfl (lv_at hl 0 rfl) ?_
        refine zcall_r (wc := [cX x b ik rr hc, cT (b 1) aN ((n : Nat) : Int) ((k : Nat) : Int) ((d : Nat) : Int) ((v : Nat) : Int), cR cI (aN 2) 72 g2, cW (b 3) wa w0, cR cI wa 12 gw]) (wr := []) (rest := []) hE hP hD hS hA [0, 1, 2, 3, 4] [] [0, 1, 2, 3, 4] rfl rfl (by decide) (by decide) (by decide) (fun (u : (Nat → Int)) => [cX x b ik rr hc, cT (b 1) aN ((n : Nat) : Int) ((k : Nat) : Int) ((d : Nat) : Int) ((v : Nat) : Int), cR cI (aN 2) 72 g2, cW (b 3) wa ((n : Nat) : Int), cR cI wa 12 u]) (fun u => rfl) (fun hPc hDc => zrunV (As := []) (rest := []) (q0 := 0) (ci := 3) K k_X3_wayOfRoutine qm_X3_127 ⟨⟨rfl, rfl⟩, ⟨Nat.le_of_ble_eq_true rfl, Nat.le_of_ble_eq_true rfl⟩⟩ rfl rfl hPc hDc (c_X3_wayOfRoutine l D cI x b ik rr hc aN n k d v g2 (mus n κ ν) wa w0 gw (by first | assumption | omega) (by first | assumption | omega) (by first | assumption | omega) (by first | assumption | omega) _) rfl hl.1 rfl (Nat.le_of_ble_eq_true rfl) dX3_after_28 ⟨Nat.zero_le _, Nat.zero_le _⟩) (by decide) (fun u H locs hpost hP hD hS => ?_)
        obtain ⟨f_1, hu⟩ : ∃ z, z = u := ⟨_, rfl⟩
        subst hu
        have hf2_28 := hpost
        have hf2_28 : ∀ j, j < n → f_1 j = ((rdc (mus n κ ν) k j : Nat) : Int) := hf2_28
        have hP : va_P D cls [cX x b ik rr hc, cT (b 1) aN ((n : Nat) : Int) ((k : Nat) : Int) ((d : Nat) : Int) ((v : Nat) : Int), cR cI (aN 2) 72 g2, cW (b 3) wa ((n : Nat) : Int), cR cI wa 12 f_1] H := hP
        have hD : va_D (va_A [cX x b ik rr hc, cT (b 1) aN ((n : Nat) : Int) ((k : Nat) : Int) ((d : Nat) : Int) ((v : Nat) : Int), cR cI (aN 2) 72 g2, cW (b 3) wa w0, cR cI wa 12 gw] sz) [cX x b ik rr hc, cT (b 1) aN ((n : Nat) : Int) ((k : Nat) : Int) ((d : Nat) : Int) ((v : Nat) : Int), cR cI (aN 2) 72 g2, cW (b 3) wa ((n : Nat) : Int), cR cI wa 12 f_1] := hD
        refine lv_iload_n hx hb dX3_after_31 rfl (lv_at hl 1 rfl) ?_
        refine lv_iload_n hx hb dX3_after_32 rfl (lv_at hl 2 rfl) ?_
        refine zcall_i (wc := [cW (b 3) wa ((n : Nat) : Int), cR cI wa 12 f_1]) (wr := [cX x b ik rr hc, cT (b 1) aN ((n : Nat) : Int) ((k : Nat) : Int) ((d : Nat) : Int) ((v : Nat) : Int), cR cI (aN 2) 72 g2]) (rest := []) hE hP hD hS hA [3, 4] [0, 1, 2] [0, 1, 2, 3, 4] rfl rfl (by decide) (by decide) (by decide) (fun (u : Unit) => [cX x b ik rr hc, cT (b 1) aN ((n : Nat) : Int) ((k : Nat) : Int) ((d : Nat) : Int) ((v : Nat) : Int), cR cI (aN 2) 72 g2, cW (b 3) wa ((n : Nat) : Int), cR cI wa 12 f_1]) (fun u => rfl) (fun hPc hDc => zrunVN (As := [.int (zI ((q1 : Nat) : Int)), .int (zI ((q2 : Nat) : Int))]) (rest := []) (q0 := 0) (ci := 2) K k_X2_placeAfter nk_X3_145 ⟨⟨rfl, rfl⟩, ⟨Nat.le_of_ble_eq_true rfl, Nat.le_of_ble_eq_true rfl⟩⟩ rfl rfl hPc hDc (c_X2_placeAfter l D cI (b 3) wa n f_1 (rdc (mus n κ ν) k) q1 q2 (by first | assumption | omega) hf2_28 (by first | assumption | omega) (by first | assumption | omega) (by first | assumption | omega) _) rfl hl.1 rfl (Nat.le_of_ble_eq_true rfl) dX3_after_33 ⟨Nat.zero_le _, Nat.zero_le _⟩) (by decide) (fun z u H locs hpost hP hD hS => ?_)
        subst hpost
        have hP : va_P D cls [cX x b ik rr hc, cT (b 1) aN ((n : Nat) : Int) ((k : Nat) : Int) ((d : Nat) : Int) ((v : Nat) : Int), cR cI (aN 2) 72 g2, cW (b 3) wa ((n : Nat) : Int), cR cI wa 12 f_1] H := hP
        have hD : va_D (va_A [cX x b ik rr hc, cT (b 1) aN ((n : Nat) : Int) ((k : Nat) : Int) ((d : Nat) : Int) ((v : Nat) : Int), cR cI (aN 2) 72 g2, cW (b 3) wa w0, cR cI wa 12 gw] sz) [cX x b ik rr hc, cT (b 1) aN ((n : Nat) : Int) ((k : Nat) : Int) ((d : Nat) : Int) ((v : Nat) : Int), cR cI (aN 2) 72 g2, cW (b 3) wa ((n : Nat) : Int), cR cI wa 12 f_1] := hD
        refine W.eq (g2 := F0 m 36 ls [.int (zI (((it (rdc (mus n κ ν) k) (q2 % rl (rdc (mus n κ ν) k) n q1) q1) : Nat) : Int))]) rfl ?_
        rw [← hQf]
        exact z_iret K hS (((n : Nat) : Int), f_1) ⟨(by simp only [fAfter, chk_t (show q1 < n by omega), chk_t (show q2 < 1000000001 by omega)]), (by (try dsimp only); omega)⟩ hP hD dX3_after_36
      · refine lv_bipush (v := zI (-102)) hx hb dX3_after_24 (by decide) ?_
        rw [← hQf]
        exact z_iret K hS (w0, gw) ⟨(by simp only [fAfter, chk_t (show q1 < n by omega)]; rw [chk_f (by omega)]), (by (try dsimp only); omega)⟩ hP hD dX3_after_26
  · have b_8 := b01_eq c_8
    refine lv_bipush (v := zI (-101)) hx hb dX3_after_11 (by decide) ?_
    rw [← hQf]
    exact z_iret K hS (w0, gw) ⟨(by simp only [fAfter, chk_f b_8]), (by (try dsimp only); omega)⟩ hP hD dX3_after_13
set_option maxHeartbeats 4000000 in
set_option maxRecDepth 100000 in
theorem c_X3_as (l : Launch) (D : va_G) (cI : ClassId) (x : Nat) (b : Nat → Nat) (ik rr hc : Int) (aN : Nat → Nat) (n k d v : Nat) (g0 g1 g2 g3 g4 g5 g6 : Nat → Int) (κ ν π ss sf st : Nat → Nat) (y1 y2 : Int) (hT : TI n k d v g0 g1 g2 g3 g4 g5 g6 κ ν π ss sf st) (hy1 : -2147483648 ≤ y1 ∧ y1 < 2147483648) (hy2 : -2147483648 ≤ y2 ∧ y2 < 2147483648) : zMi l yX3_as cX3_as 3 (some .int) ({ frames := 1, cells := 0, slots := 0, locals := 21 }) D cI [.ref x, .int (zI y1), .int (zI y2)] [cX x b ik rr hc, cT (b 1) aN ((n : Nat) : Int) ((k : Nat) : Int) ((d : Nat) : Int) ((v : Nat) : Int), cR cI (aN 0) 6 g0] (fun (z : Int) (u : Unit) => (z = (fAs k κ y1 y2)) ∧ (-2147483648 ≤ z ∧ z < 2147483648)) (fun (u : Unit) => [cX x b ik rr hc, cT (b 1) aN ((n : Nat) : Int) ((k : Nat) : Int) ((d : Nat) : Int) ((v : Nat) : Int), cR cI (aN 0) 6 g0]) := by
  intro sz
  refine zstart rfl (by decide) (Nat.le_of_ble_eq_true rfl) ?_
  intro p e s m below meth c ls K hnm hsz hP hD hS hl
  generalize hargs : ([.ref x, .int (zI y1), .int (zI y2)] : List Value).toArray = args at K ⊢
  generalize hQf : MQ below _ args s _ _ _ = Qf
  have K : zK p s m args meth c cX3_as 3 RX3 (some .int) D cI := K
  obtain ⟨hx, hb, hml, hown, hts, hE, -, -⟩ := id K
  have hA := zhA (ws0 := [cX x b ik rr hc, cT (b 1) aN ((n : Nat) : Int) ((k : Nat) : Int) ((d : Nat) : Int) ((v : Nat) : Int), cR cI (aN 0) 6 g0]) hsz
  have hl : lv_has ls 3 [(0, .ref x), (1, .int (zI y1)), (2, .int (zI y2))] := hl
  obtain ⟨hnk, hd, hv, hg0, hκ, hg1, hν, hg2, hg3, hπ, hπi, hg4, hss, hg5, hsf, hg6, hst⟩ := id hT
  have hn : n ≤ 12 := by omega
  have hk : k ≤ 6 := by omega
  have hμ := mus_lt (k := k) hn hκ hν
  have hμi := mus_inj (k := k) hn hκ hν
  have hρ : ∀ j, j < n → rdc (mus n κ ν) k j < n := fun j hj => rdc_lt hμ (Nat.le_refl k) hj
  have hρi : inj (rdc (mus n κ ν) k) n := rdc_inj hμ hμi (Nat.le_refl k)
  refine lv_aload_n hx hb dX3_as_0 rfl (lv_at hl 0 rfl) ?_
  refine va_get (D := D) (ci := 3) (v := .ref (b 1)) (C := RX3) (T := TX3) (N := 10) hx hb hts inT_X3 hown hE.1 hP 0 rfl rfl 1 (by decide) (hts _ qf_X3_19) (fun _ h9 => h9) rfl dX3_as_1 ?_
  refine lv_iload_n hx hb dX3_as_4 rfl (lv_at hl 1 rfl) ?_
  refine zcall_i (wc := [cT (b 1) aN ((n : Nat) : Int) ((k : Nat) : Int) ((d : Nat) : Int) ((v : Nat) : Int)]) (wr := [cX x b ik rr hc, cR cI (aN 0) 6 g0]) (rest := []) hE hP hD hS hA [1] [0, 2] [0, 2, 1] rfl rfl (by decide) (by decide) (by decide) (fun (u : Unit) => [cX x b ik rr hc, cT (b 1) aN ((n : Nat) : Int) ((k : Nat) : Int) ((d : Nat) : Int) ((v : Nat) : Int), cR cI (aN 0) 6 g0]) (fun u => rfl) (fun hPc hDc => zrunVN (As := [.int (zI y1)]) (rest := []) (q0 := 0) (ci := 1) K k_X1_hasStep nk_X3_76 ⟨⟨rfl, rfl⟩, ⟨Nat.le_of_ble_eq_true rfl, Nat.le_of_ble_eq_true rfl⟩⟩ rfl rfl hPc hDc (c_X1_hasStep l D cI (b 1) aN n k d v y1 (by first | assumption | omega) (by first | assumption | omega) _) rfl hl.1 rfl (Nat.le_of_ble_eq_true rfl) dX3_as_5 ⟨Nat.zero_le _, Nat.zero_le _⟩) (by decide) (fun z u H locs hpost hP hD hS => ?_)
  subst hpost
  have hP : va_P D cls [cX x b ik rr hc, cT (b 1) aN ((n : Nat) : Int) ((k : Nat) : Int) ((d : Nat) : Int) ((v : Nat) : Int), cR cI (aN 0) 6 g0] H := hP
  have hD : va_D (va_A [cX x b ik rr hc, cT (b 1) aN ((n : Nat) : Int) ((k : Nat) : Int) ((d : Nat) : Int) ((v : Nat) : Int), cR cI (aN 0) 6 g0] sz) [cX x b ik rr hc, cT (b 1) aN ((n : Nat) : Int) ((k : Nat) : Int) ((d : Nat) : Int) ((v : Nat) : Int), cR cI (aN 0) 6 g0] := hD
  refine W.eq (g2 := F0 m 8 ls [.int (zI (b01 (0 ≤ y1 ∧ y1 < k)))]) rfl ?_
  refine z_if_ne (tgt := 14) hx hb (by have := b01_r (0 ≤ y1 ∧ y1 < k); omega) dX3_as_8 (by decide) (fun c_8 => ?_) (fun c_8 => ?_)
  · have b_8 := b01_ne c_8
    obtain ⟨q1, rfl⟩ : ∃ q : Nat, y1 = (q : Int) := ⟨y1.toNat, by omega⟩
    refine lv_iload_n hx hb dX3_as_14 rfl (lv_at hl 2 rfl) ?_
    refine z_if_lt (tgt := 23) hx hb (by omega) dX3_as_15 (by decide) (fun c_15 => ?_) (fun c_15 => ?_)
    · refine lv_bipush (v := zI (-102)) hx hb dX3_as_23 (by decide) ?_
      rw [← hQf]
      exact z_iret K hS () ⟨(by simp only [fAs, chk_t (show q1 < k by omega)]; rw [chk_f (by omega)]), (by omega)⟩ hP hD dX3_as_25
    · refine lv_iload_n hx hb dX3_as_18 rfl (lv_at hl 2 rfl) ?_
      refine lv_iconst (v := zI 5) hx hb dX3_as_19 rfl ?_
      refine z_icmp_lt (tgt := 26) hx hb (by omega) dX3_as_20 (by decide) (fun c_20 => ?_) (fun c_20 => ?_)
      · obtain ⟨q2, rfl⟩ : ∃ q : Nat, y2 = (q : Int) := ⟨y2.toNat, by omega⟩
        have hκq := hκ q1 (by omega)
        refine lv_aload_n hx hb dX3_as_26 rfl (lv_at hl 0 rfl) ?_
        refine va_get (D := D) (ci := 3) (v := .ref (b 1)) (C := RX3) (T := TX3) (N := 10) hx hb hts inT_X3 hown hE.1 hP 0 rfl rfl 1 (by decide) (hts _ qf_X3_19) (fun _ h9 => h9) rfl dX3_as_27 ?_
        refine va_getN (D := D) (ci := 1) (v := .ref (aN 0)) (C := RX1) (T := TX1) (N := 11) hx hb hts inT_X1 hown hE.1 hP 1 rfl rfl 4 (by decide) (va_Nw.use rfl (hE.2 _ nf_X3_80 rfl)) (fun _ h9 => h9) rfl dX3_as_30 ?_
        refine lv_iload_n hx hb dX3_as_33 rfl (lv_at hl 1 rfl) ?_
        refine z_iald hx hb hE hP 2 rfl q1 (by omega) (by omega) (by first | decide | omega) ((κ q1 : Nat) : Int) (hg0 q1 (by omega)) dX3_as_34 ?_
        refine lv_iload_n hx hb dX3_as_35 rfl (lv_at hl 2 rfl) ?_
        refine zcall_i (wc := []) (wr := [cX x b ik rr hc, cT (b 1) aN ((n : Nat) : Int) ((k : Nat) : Int) ((d : Nat) : Int) ((v : Nat) : Int), cR cI (aN 0) 6 g0]) (rest := []) hE hP hD hS hA [] [0, 1, 2] [0, 1, 2] rfl rfl (by decide) (by decide) (by decide) (fun (u : Unit) => [cX x b ik rr hc, cT (b 1) aN ((n : Nat) : Int) ((k : Nat) : Int) ((d : Nat) : Int) ((v : Nat) : Int), cR cI (aN 0) 6 g0]) (fun u => rfl) (fun hPc hDc => zrunS (As := [.int (zI ((κ q1 : Nat) : Int)), .int (zI ((q2 : Nat) : Int))]) (rest := []) K k_X3_isOfKind qm_X3_104 ⟨⟨rfl, rfl⟩, ⟨Nat.le_of_ble_eq_true rfl, Nat.le_of_ble_eq_true rfl⟩⟩ hPc hDc (c_X3_isOfKind l D cI ((κ q1 : Nat) : Int) ((q2 : Nat) : Int) (by first | assumption | omega) (by first | assumption | omega) _) rfl hl.1 rfl (Nat.le_of_ble_eq_true rfl) dX3_as_36 ⟨Nat.zero_le _, Nat.zero_le _⟩) (by decide) (fun z u H locs hpost hP hD hS => ?_)
        subst hpost
        have hP : va_P D cls [cX x b ik rr hc, cT (b 1) aN ((n : Nat) : Int) ((k : Nat) : Int) ((d : Nat) : Int) ((v : Nat) : Int), cR cI (aN 0) 6 g0] H := hP
        have hD : va_D (va_A [cX x b ik rr hc, cT (b 1) aN ((n : Nat) : Int) ((k : Nat) : Int) ((d : Nat) : Int) ((v : Nat) : Int), cR cI (aN 0) 6 g0] sz) [cX x b ik rr hc, cT (b 1) aN ((n : Nat) : Int) ((k : Nat) : Int) ((d : Nat) : Int) ((v : Nat) : Int), cR cI (aN 0) 6 g0] := hD
        refine W.eq (g2 := F0 m 39 ls [.int (zI (b01 (((q2 : Nat) : Int) = 0 ∨ ((q2 : Nat) : Int) = ((κ q1 : Nat) : Int) ∨ (((q2 : Nat) : Int) = 2 ∧ ((κ q1 : Nat) : Int) = 4))))]) rfl ?_
        refine z_if_eq (tgt := 46) hx hb (by have := b01_r (((q2 : Nat) : Int) = 0 ∨ ((q2 : Nat) : Int) = ((κ q1 : Nat) : Int) ∨ (((q2 : Nat) : Int) = 2 ∧ ((κ q1 : Nat) : Int) = 4)); omega) dX3_as_39 (by decide) (fun c_39 => ?_) (fun c_39 => ?_)
        · have b_39 := b01_eq c_39
          refine lv_iconst (v := zI (-1)) hx hb dX3_as_46 rfl ?_
          rw [← hQf]
          exact z_iret K hS () ⟨(by simp only [fAs, chk_t (show q1 < k by omega), chk_t (show q2 < 5 by omega)]; first | (rw [if_neg (by omega)]; done) | rw [if_pos (by omega)]), (by omega)⟩ hP hD dX3_as_47
        · have b_39 := b01_ne c_39
          refine lv_iload_n hx hb dX3_as_42 rfl (lv_at hl 1 rfl) ?_
          refine lv_goto (tgt := 47) hx hb dX3_as_43 (by decide) ?_
          rw [← hQf]
          exact z_iret K hS () ⟨(by simp only [fAs, chk_t (show q1 < k by omega), chk_t (show q2 < 5 by omega)]; first | (rw [if_neg (by omega)]; done) | rw [if_pos (by omega)]), (by omega)⟩ hP hD dX3_as_47
      · refine lv_bipush (v := zI (-102)) hx hb dX3_as_23 (by decide) ?_
        rw [← hQf]
        exact z_iret K hS () ⟨(by simp only [fAs, chk_t (show q1 < k by omega)]; rw [chk_f (by omega)]), (by omega)⟩ hP hD dX3_as_25
  · have b_8 := b01_eq c_8
    refine lv_bipush (v := zI (-101)) hx hb dX3_as_11 (by decide) ?_
    rw [← hQf]
    exact z_iret K hS () ⟨(by simp only [fAs, chk_f b_8]), (by omega)⟩ hP hD dX3_as_13
set_option maxHeartbeats 4000000 in
set_option maxRecDepth 100000 in
theorem c_X3_step (l : Launch) (D : va_G) (cI : ClassId) (x : Nat) (b : Nat → Nat) (ik rr hc : Int) (aN : Nat → Nat) (n k d v : Nat) (g0 g1 g2 g3 g4 g5 g6 : Nat → Int) (κ ν π ss sf st : Nat → Nat) (wa : Nat) (w0 : Int) (gw : Nat → Int) (gt : Nat → Int) (y1 y2 : Int) (hT : TI n k d v g0 g1 g2 g3 g4 g5 g6 κ ν π ss sf st) (hy1 : -2147483648 ≤ y1 ∧ y1 < 2147483648) (hy2 : -2147483648 ≤ y2 ∧ y2 < 2147483648) : zMi l yX3_step cX3_step 3 (some .int) ({ frames := 5, cells := 0, slots := 0, locals := 126 }) D cI [.ref x, .int (zI y1), .int (zI y2)] [cX x b ik rr hc, cT (b 1) aN ((n : Nat) : Int) ((k : Nat) : Int) ((d : Nat) : Int) ((v : Nat) : Int), cR cI (aN 0) 6 g0, cR cI (aN 1) 6 g1, cR cI (aN 2) 72 g2, cR cI (aN 4) 6 g4, cR cI (aN 5) 6 g5, cR cI (aN 6) 6 g6, cW (b 3) wa w0, cR cI wa 12 gw, cR cI (b 4) 12 gt] (fun (z : Int) (u : (Int) × (Nat → Int) × (Nat → Int)) => (z = (fStep n k κ ν v ss sf st y1 y2)) ∧ (-2147483648 ≤ z ∧ z < 2147483648)) (fun (u : (Int) × (Nat → Int) × (Nat → Int)) => [cX x b ik rr hc, cT (b 1) aN ((n : Nat) : Int) ((k : Nat) : Int) ((d : Nat) : Int) ((v : Nat) : Int), cR cI (aN 0) 6 g0, cR cI (aN 1) 6 g1, cR cI (aN 2) 72 g2, cR cI (aN 4) 6 g4, cR cI (aN 5) 6 g5, cR cI (aN 6) 6 g6, cW (b 3) wa u.1, cR cI wa 12 u.2.1, cR cI (b 4) 12 u.2.2]) := by
  intro sz
  refine zstart rfl (by decide) (Nat.le_of_ble_eq_true rfl) ?_
  intro p e s m below meth c ls K hnm hsz hP hD hS hl
  generalize hargs : ([.ref x, .int (zI y1), .int (zI y2)] : List Value).toArray = args at K ⊢
  generalize hQf : MQ below _ args s _ _ _ = Qf
  have K : zK p s m args meth c cX3_step 3 RX3 (some .int) D cI := K
  obtain ⟨hx, hb, hml, hown, hts, hE, -, -⟩ := id K
  have hA := zhA (ws0 := [cX x b ik rr hc, cT (b 1) aN ((n : Nat) : Int) ((k : Nat) : Int) ((d : Nat) : Int) ((v : Nat) : Int), cR cI (aN 0) 6 g0, cR cI (aN 1) 6 g1, cR cI (aN 2) 72 g2, cR cI (aN 4) 6 g4, cR cI (aN 5) 6 g5, cR cI (aN 6) 6 g6, cW (b 3) wa w0, cR cI wa 12 gw, cR cI (b 4) 12 gt]) hsz
  have hl : lv_has ls 3 [(0, .ref x), (1, .int (zI y1)), (2, .int (zI y2))] := hl
  obtain ⟨hnk, hd, hv, hg0, hκ, hg1, hν, hg2, hg3, hπ, hπi, hg4, hss, hg5, hsf, hg6, hst⟩ := id hT
  have hn : n ≤ 12 := by omega
  have hk : k ≤ 6 := by omega
  have hμ := mus_lt (k := k) hn hκ hν
  have hμi := mus_inj (k := k) hn hκ hν
  have hρ : ∀ j, j < n → rdc (mus n κ ν) k j < n := fun j hj => rdc_lt hμ (Nat.le_refl k) hj
  have hρi : inj (rdc (mus n κ ν) k) n := rdc_inj hμ hμi (Nat.le_refl k)
  refine lv_aload_n hx hb dX3_step_0 rfl (lv_at hl 0 rfl) ?_
  refine va_get (D := D) (ci := 3) (v := .ref (b 1)) (C := RX3) (T := TX3) (N := 10) hx hb hts inT_X3 hown hE.1 hP 0 rfl rfl 1 (by decide) (hts _ qf_X3_19) (fun _ h9 => h9) rfl dX3_step_1 ?_
  refine lv_iload_n hx hb dX3_step_4 rfl (lv_at hl 1 rfl) ?_
  refine zcall_i (wc := [cT (b 1) aN ((n : Nat) : Int) ((k : Nat) : Int) ((d : Nat) : Int) ((v : Nat) : Int)]) (wr := [cX x b ik rr hc, cR cI (aN 0) 6 g0, cR cI (aN 1) 6 g1, cR cI (aN 2) 72 g2, cR cI (aN 4) 6 g4, cR cI (aN 5) 6 g5, cR cI (aN 6) 6 g6, cW (b 3) wa w0, cR cI wa 12 gw, cR cI (b 4) 12 gt]) (rest := []) hE hP hD hS hA [1] [0, 2, 3, 4, 5, 6, 7, 8, 9, 10] [0, 10, 1, 2, 3, 4, 5, 6, 7, 8, 9] rfl rfl (by decide) (by decide) (by decide) (fun (u : Unit) => [cX x b ik rr hc, cT (b 1) aN ((n : Nat) : Int) ((k : Nat) : Int) ((d : Nat) : Int) ((v : Nat) : Int), cR cI (aN 0) 6 g0, cR cI (aN 1) 6 g1, cR cI (aN 2) 72 g2, cR cI (aN 4) 6 g4, cR cI (aN 5) 6 g5, cR cI (aN 6) 6 g6, cW (b 3) wa w0, cR cI wa 12 gw, cR cI (b 4) 12 gt]) (fun u => rfl) (fun hPc hDc => zrunVN (As := [.int (zI y1)]) (rest := []) (q0 := 0) (ci := 1) K k_X1_hasStep nk_X3_76 ⟨⟨rfl, rfl⟩, ⟨Nat.le_of_ble_eq_true rfl, Nat.le_of_ble_eq_true rfl⟩⟩ rfl rfl hPc hDc (c_X1_hasStep l D cI (b 1) aN n k d v y1 (by first | assumption | omega) (by first | assumption | omega) _) rfl hl.1 rfl (Nat.le_of_ble_eq_true rfl) dX3_step_5 ⟨Nat.zero_le _, Nat.zero_le _⟩) (by decide) (fun z u H locs hpost hP hD hS => ?_)
  subst hpost
  have hP : va_P D cls [cX x b ik rr hc, cT (b 1) aN ((n : Nat) : Int) ((k : Nat) : Int) ((d : Nat) : Int) ((v : Nat) : Int), cR cI (aN 0) 6 g0, cR cI (aN 1) 6 g1, cR cI (aN 2) 72 g2, cR cI (aN 4) 6 g4, cR cI (aN 5) 6 g5, cR cI (aN 6) 6 g6, cW (b 3) wa w0, cR cI wa 12 gw, cR cI (b 4) 12 gt] H := hP
  have hD : va_D (va_A [cX x b ik rr hc, cT (b 1) aN ((n : Nat) : Int) ((k : Nat) : Int) ((d : Nat) : Int) ((v : Nat) : Int), cR cI (aN 0) 6 g0, cR cI (aN 1) 6 g1, cR cI (aN 2) 72 g2, cR cI (aN 4) 6 g4, cR cI (aN 5) 6 g5, cR cI (aN 6) 6 g6, cW (b 3) wa w0, cR cI wa 12 gw, cR cI (b 4) 12 gt] sz) [cX x b ik rr hc, cT (b 1) aN ((n : Nat) : Int) ((k : Nat) : Int) ((d : Nat) : Int) ((v : Nat) : Int), cR cI (aN 0) 6 g0, cR cI (aN 1) 6 g1, cR cI (aN 2) 72 g2, cR cI (aN 4) 6 g4, cR cI (aN 5) 6 g5, cR cI (aN 6) 6 g6, cW (b 3) wa w0, cR cI wa 12 gw, cR cI (b 4) 12 gt] := hD
  refine W.eq (g2 := F0 m 8 ls [.int (zI (b01 (0 ≤ y1 ∧ y1 < k)))]) rfl ?_
  refine z_if_ne (tgt := 14) hx hb (by have := b01_r (0 ≤ y1 ∧ y1 < k); omega) dX3_step_8 (by decide) (fun c_8 => ?_) (fun c_8 => ?_)
  · have b_8 := b01_ne c_8
    obtain ⟨q1, rfl⟩ : ∃ q : Nat, y1 = (q : Int) := ⟨y1.toNat, by omega⟩
    have hκq := hκ q1 (by omega)
    have hνq := hν q1 (by omega)
    have hB := btN_10 (fun nm => agB n (κ q1) nm ss sf st q1 v) (Nat.le_refl 10)
    have hod := od_le (φ := mus n κ ν q1) (n := n) (i := n) hn (Nat.le_refl n)
    have hct := fb_ct_le (fun j => decide (mus n κ ν q1 j = j)) n
    have hwb := wbN_le (lw n (κ q1) (fun nm => agB n (κ q1) nm ss sf st q1 v)) n
    refine lv_iload_n hx hb dX3_step_14 rfl (lv_at hl 2 rfl) ?_
    rcases (show y2 = 0 ∨ y2 = 1 ∨ y2 = 2 ∨ y2 = 3 ∨ y2 = 4 ∨ y2 = 5 ∨ (y2 ≠ 0 ∧ y2 ≠ 1 ∧ y2 ≠ 2 ∧ y2 ≠ 3 ∧ y2 ≠ 4 ∧ y2 ≠ 5) by omega) with c_15 | c_15 | c_15 | c_15 | c_15 | c_15 | c_15
    · refine lv_tableIn (tgt := 52) hx hb dX3_step_15 (by rw [zI_toInt (by omega)]; omega) (by rw [zI_toInt (by omega)]; omega) (by rw [zI_toInt (by omega), c_15]; rfl) (by decide) ?_
      refine lv_aload_n hx hb dX3_step_52 rfl (lv_at hl 0 rfl) ?_
      refine va_get (D := D) (ci := 3) (v := .ref (b 1)) (C := RX3) (T := TX3) (N := 10) hx hb hts inT_X3 hown hE.1 hP 0 rfl rfl 1 (by decide) (hts _ qf_X3_19) (fun _ h9 => h9) rfl dX3_step_53 ?_
      refine va_getN (D := D) (ci := 1) (v := .ref (aN 0)) (C := RX1) (T := TX1) (N := 11) hx hb hts inT_X1 hown hE.1 hP 1 rfl rfl 4 (by decide) (va_Nw.use rfl (hE.2 _ nf_X3_80 rfl)) (fun _ h9 => h9) rfl dX3_step_56 ?_
      refine lv_iload_n hx hb dX3_step_59 rfl (lv_at hl 1 rfl) ?_
      refine z_iald hx hb hE hP 2 rfl q1 (by omega) (by omega) (by first | decide | omega) ((κ q1 : Nat) : Int) (hg0 q1 (by omega)) dX3_step_60 ?_
      rw [← hQf]
      exact z_iret K hS (w0, gw, gt) ⟨(by simp only [fStep, chk_t (show q1 < k by omega), c_15]; rfl), (by (try dsimp only); omega)⟩ hP hD dX3_step_61
    · refine lv_tableIn (tgt := 62) hx hb dX3_step_15 (by rw [zI_toInt (by omega)]; omega) (by rw [zI_toInt (by omega)]; omega) (by rw [zI_toInt (by omega), c_15]; rfl) (by decide) ?_
      refine lv_aload_n hx hb dX3_step_62 rfl (lv_at hl 0 rfl) ?_
      refine va_get (D := D) (ci := 3) (v := .ref (b 1)) (C := RX3) (T := TX3) (N := 10) hx hb hts inT_X3 hown hE.1 hP 0 rfl rfl 1 (by decide) (hts _ qf_X3_19) (fun _ h9 => h9) rfl dX3_step_63 ?_
      refine va_getN (D := D) (ci := 1) (v := .ref (aN 1)) (C := RX1) (T := TX1) (N := 11) hx hb hts inT_X1 hown hE.1 hP 1 rfl rfl 5 (by decide) (va_Nw.use rfl (hE.2 _ nf_X3_83 rfl)) (fun _ h9 => h9) rfl dX3_step_66 ?_
      refine lv_iload_n hx hb dX3_step_69 rfl (lv_at hl 1 rfl) ?_
      refine z_iald hx hb hE hP 3 rfl q1 (by omega) (by omega) (by first | decide | omega) ((ν q1 : Nat) : Int) (hg1 q1 (by omega)) dX3_step_70 ?_
      rw [← hQf]
      exact z_iret K hS (w0, gw, gt) ⟨(by simp only [fStep, chk_t (show q1 < k by omega), c_15]; rfl), (by (try dsimp only); omega)⟩ hP hD dX3_step_71
    · refine lv_tableIn (tgt := 72) hx hb dX3_step_15 (by rw [zI_toInt (by omega)]; omega) (by rw [zI_toInt (by omega)]; omega) (by rw [zI_toInt (by omega), c_15]; rfl) (by decide) ?_
      refine lv_aload_n hx hb dX3_step_72 rfl (lv_at hl 0 rfl) ?_
      refine lv_iload_n hx hb dX3_step_73 rfl (lv_at hl 1 rfl) ?_
      refine zcall_r (wc := [cX x b ik rr hc, cT (b 1) aN ((n : Nat) : Int) ((k : Nat) : Int) ((d : Nat) : Int) ((v : Nat) : Int), cR cI (aN 2) 72 g2, cW (b 3) wa w0, cR cI wa 12 gw]) (wr := [cR cI (aN 0) 6 g0, cR cI (aN 1) 6 g1, cR cI (aN 4) 6 g4, cR cI (aN 5) 6 g5, cR cI (aN 6) 6 g6, cR cI (b 4) 12 gt]) (rest := []) hE hP hD hS hA [0, 1, 4, 8, 9] [2, 3, 5, 6, 7, 10] [6, 7, 0, 1, 8, 2, 3, 4, 9, 10, 5] rfl rfl (by decide) (by decide) (by decide) (fun (u : (Nat → Int)) => [cX x b ik rr hc, cT (b 1) aN ((n : Nat) : Int) ((k : Nat) : Int) ((d : Nat) : Int) ((v : Nat) : Int), cR cI (aN 0) 6 g0, cR cI (aN 1) 6 g1, cR cI (aN 2) 72 g2, cR cI (aN 4) 6 g4, cR cI (aN 5) 6 g5, cR cI (aN 6) 6 g6, cW (b 3) wa ((n : Nat) : Int), cR cI wa 12 u, cR cI (b 4) 12 gt]) (fun u => rfl) (fun hPc hDc => zrunV (As := [.int (zI ((q1 : Nat) : Int))]) (rest := []) (q0 := 0) (ci := 3) K k_X3_wayOfStep qm_X3_86 ⟨⟨rfl, rfl⟩, ⟨Nat.le_of_ble_eq_true rfl, Nat.le_of_ble_eq_true rfl⟩⟩ rfl rfl hPc hDc (c_X3_wayOfStep l D cI x b ik rr hc aN n k d v g2 (mus n κ ν) wa w0 gw q1 (by first | assumption | omega) (by first | assumption | omega) (by first | assumption | omega) (by first | assumption | omega) (by first | assumption | omega) _) rfl hl.1 rfl (Nat.le_of_ble_eq_true rfl) dX3_step_74 ⟨Nat.zero_le _, Nat.zero_le _⟩) (by decide) (fun u H locs hpost hP hD hS => ?_)
      obtain ⟨f_1, hu⟩ : ∃ z, z = u := ⟨_, rfl⟩
      subst hu
      have hf2_74 := hpost
      have hf2_74 : ∀ j, j < n → f_1 j = (((mus n κ ν) q1 j : Nat) : Int) := hf2_74
      have hP : va_P D cls [cX x b ik rr hc, cT (b 1) aN ((n : Nat) : Int) ((k : Nat) : Int) ((d : Nat) : Int) ((v : Nat) : Int), cR cI (aN 0) 6 g0, cR cI (aN 1) 6 g1, cR cI (aN 2) 72 g2, cR cI (aN 4) 6 g4, cR cI (aN 5) 6 g5, cR cI (aN 6) 6 g6, cW (b 3) wa ((n : Nat) : Int), cR cI wa 12 f_1, cR cI (b 4) 12 gt] H := hP
      have hD : va_D (va_A [cX x b ik rr hc, cT (b 1) aN ((n : Nat) : Int) ((k : Nat) : Int) ((d : Nat) : Int) ((v : Nat) : Int), cR cI (aN 0) 6 g0, cR cI (aN 1) 6 g1, cR cI (aN 2) 72 g2, cR cI (aN 4) 6 g4, cR cI (aN 5) 6 g5, cR cI (aN 6) 6 g6, cW (b 3) wa w0, cR cI wa 12 gw, cR cI (b 4) 12 gt] sz) [cX x b ik rr hc, cT (b 1) aN ((n : Nat) : Int) ((k : Nat) : Int) ((d : Nat) : Int) ((v : Nat) : Int), cR cI (aN 0) 6 g0, cR cI (aN 1) 6 g1, cR cI (aN 2) 72 g2, cR cI (aN 4) 6 g4, cR cI (aN 5) 6 g5, cR cI (aN 6) 6 g6, cW (b 3) wa ((n : Nat) : Int), cR cI wa 12 f_1, cR cI (b 4) 12 gt] := hD
      refine zcall_i (wc := [cW (b 3) wa ((n : Nat) : Int), cR cI wa 12 f_1]) (wr := [cX x b ik rr hc, cT (b 1) aN ((n : Nat) : Int) ((k : Nat) : Int) ((d : Nat) : Int) ((v : Nat) : Int), cR cI (aN 0) 6 g0, cR cI (aN 1) 6 g1, cR cI (aN 2) 72 g2, cR cI (aN 4) 6 g4, cR cI (aN 5) 6 g5, cR cI (aN 6) 6 g6, cR cI (b 4) 12 gt]) (rest := []) hE hP hD hS hA [8, 9] [0, 1, 2, 3, 4, 5, 6, 7, 10] [0, 1, 2, 3, 4, 5, 6, 7, 9, 10, 8] rfl rfl (by decide) (by decide) (by decide) (fun (u : Unit) => [cX x b ik rr hc, cT (b 1) aN ((n : Nat) : Int) ((k : Nat) : Int) ((d : Nat) : Int) ((v : Nat) : Int), cR cI (aN 0) 6 g0, cR cI (aN 1) 6 g1, cR cI (aN 2) 72 g2, cR cI (aN 4) 6 g4, cR cI (aN 5) 6 g5, cR cI (aN 6) 6 g6, cW (b 3) wa ((n : Nat) : Int), cR cI wa 12 f_1, cR cI (b 4) 12 gt]) (fun u => rfl) (fun hPc hDc => zrunVN (As := []) (rest := []) (q0 := 0) (ci := 2) K k_X2_stayCount nk_X3_90 ⟨⟨rfl, rfl⟩, ⟨Nat.le_of_ble_eq_true rfl, Nat.le_of_ble_eq_true rfl⟩⟩ rfl rfl hPc hDc (c_X2_stayCount l D cI (b 3) wa n f_1 (mus n κ ν q1) (by first | assumption | omega) hf2_74 (fun j hj => hμ q1 j (by omega) hj) _) rfl hl.1 rfl (Nat.le_of_ble_eq_true rfl) dX3_step_77 ⟨Nat.zero_le _, Nat.zero_le _⟩) (by decide) (fun z u H locs hpost hP hD hS => ?_)
      subst hpost
      have hP : va_P D cls [cX x b ik rr hc, cT (b 1) aN ((n : Nat) : Int) ((k : Nat) : Int) ((d : Nat) : Int) ((v : Nat) : Int), cR cI (aN 0) 6 g0, cR cI (aN 1) 6 g1, cR cI (aN 2) 72 g2, cR cI (aN 4) 6 g4, cR cI (aN 5) 6 g5, cR cI (aN 6) 6 g6, cW (b 3) wa ((n : Nat) : Int), cR cI wa 12 f_1, cR cI (b 4) 12 gt] H := hP
      have hD : va_D (va_A [cX x b ik rr hc, cT (b 1) aN ((n : Nat) : Int) ((k : Nat) : Int) ((d : Nat) : Int) ((v : Nat) : Int), cR cI (aN 0) 6 g0, cR cI (aN 1) 6 g1, cR cI (aN 2) 72 g2, cR cI (aN 4) 6 g4, cR cI (aN 5) 6 g5, cR cI (aN 6) 6 g6, cW (b 3) wa w0, cR cI wa 12 gw, cR cI (b 4) 12 gt] sz) [cX x b ik rr hc, cT (b 1) aN ((n : Nat) : Int) ((k : Nat) : Int) ((d : Nat) : Int) ((v : Nat) : Int), cR cI (aN 0) 6 g0, cR cI (aN 1) 6 g1, cR cI (aN 2) 72 g2, cR cI (aN 4) 6 g4, cR cI (aN 5) 6 g5, cR cI (aN 6) 6 g6, cW (b 3) wa ((n : Nat) : Int), cR cI wa 12 f_1, cR cI (b 4) 12 gt] := hD
      refine W.eq (g2 := F0 m 80 ls [.int (zI (((fb_ct (fun j => decide ((mus n κ ν q1) j = j)) n) : Nat) : Int))]) rfl ?_
      rw [← hQf]
      exact z_iret K hS (((n : Nat) : Int), f_1, gt) ⟨(by simp only [fStep, chk_t (show q1 < k by omega), c_15]; rfl), (by (try dsimp only); omega)⟩ hP hD dX3_step_80
    · refine lv_tableIn (tgt := 81) hx hb dX3_step_15 (by rw [zI_toInt (by omega)]; omega) (by rw [zI_toInt (by omega)]; omega) (by rw [zI_toInt (by omega), c_15]; rfl) (by decide) ?_
      refine lv_aload_n hx hb dX3_step_81 rfl (lv_at hl 0 rfl) ?_
      refine lv_iload_n hx hb dX3_step_82 rfl (lv_at hl 1 rfl) ?_
      refine zcall_r (wc := [cX x b ik rr hc, cT (b 1) aN ((n : Nat) : Int) ((k : Nat) : Int) ((d : Nat) : Int) ((v : Nat) : Int), cR cI (aN 2) 72 g2, cW (b 3) wa w0, cR cI wa 12 gw]) (wr := [cR cI (aN 0) 6 g0, cR cI (aN 1) 6 g1, cR cI (aN 4) 6 g4, cR cI (aN 5) 6 g5, cR cI (aN 6) 6 g6, cR cI (b 4) 12 gt]) (rest := []) hE hP hD hS hA [0, 1, 4, 8, 9] [2, 3, 5, 6, 7, 10] [6, 7, 0, 1, 8, 2, 3, 4, 9, 10, 5] rfl rfl (by decide) (by decide) (by decide) (fun (u : (Nat → Int)) => [cX x b ik rr hc, cT (b 1) aN ((n : Nat) : Int) ((k : Nat) : Int) ((d : Nat) : Int) ((v : Nat) : Int), cR cI (aN 0) 6 g0, cR cI (aN 1) 6 g1, cR cI (aN 2) 72 g2, cR cI (aN 4) 6 g4, cR cI (aN 5) 6 g5, cR cI (aN 6) 6 g6, cW (b 3) wa ((n : Nat) : Int), cR cI wa 12 u, cR cI (b 4) 12 gt]) (fun u => rfl) (fun hPc hDc => zrunV (As := [.int (zI ((q1 : Nat) : Int))]) (rest := []) (q0 := 0) (ci := 3) K k_X3_wayOfStep qm_X3_86 ⟨⟨rfl, rfl⟩, ⟨Nat.le_of_ble_eq_true rfl, Nat.le_of_ble_eq_true rfl⟩⟩ rfl rfl hPc hDc (c_X3_wayOfStep l D cI x b ik rr hc aN n k d v g2 (mus n κ ν) wa w0 gw q1 (by first | assumption | omega) (by first | assumption | omega) (by first | assumption | omega) (by first | assumption | omega) (by first | assumption | omega) _) rfl hl.1 rfl (Nat.le_of_ble_eq_true rfl) dX3_step_83 ⟨Nat.zero_le _, Nat.zero_le _⟩) (by decide) (fun u H locs hpost hP hD hS => ?_)
      obtain ⟨f_2, hu⟩ : ∃ z, z = u := ⟨_, rfl⟩
      subst hu
      have hf2_83 := hpost
      have hf2_83 : ∀ j, j < n → f_2 j = (((mus n κ ν) q1 j : Nat) : Int) := hf2_83
      have hP : va_P D cls [cX x b ik rr hc, cT (b 1) aN ((n : Nat) : Int) ((k : Nat) : Int) ((d : Nat) : Int) ((v : Nat) : Int), cR cI (aN 0) 6 g0, cR cI (aN 1) 6 g1, cR cI (aN 2) 72 g2, cR cI (aN 4) 6 g4, cR cI (aN 5) 6 g5, cR cI (aN 6) 6 g6, cW (b 3) wa ((n : Nat) : Int), cR cI wa 12 f_2, cR cI (b 4) 12 gt] H := hP
      have hD : va_D (va_A [cX x b ik rr hc, cT (b 1) aN ((n : Nat) : Int) ((k : Nat) : Int) ((d : Nat) : Int) ((v : Nat) : Int), cR cI (aN 0) 6 g0, cR cI (aN 1) 6 g1, cR cI (aN 2) 72 g2, cR cI (aN 4) 6 g4, cR cI (aN 5) 6 g5, cR cI (aN 6) 6 g6, cW (b 3) wa w0, cR cI wa 12 gw, cR cI (b 4) 12 gt] sz) [cX x b ik rr hc, cT (b 1) aN ((n : Nat) : Int) ((k : Nat) : Int) ((d : Nat) : Int) ((v : Nat) : Int), cR cI (aN 0) 6 g0, cR cI (aN 1) 6 g1, cR cI (aN 2) 72 g2, cR cI (aN 4) 6 g4, cR cI (aN 5) 6 g5, cR cI (aN 6) 6 g6, cW (b 3) wa ((n : Nat) : Int), cR cI wa 12 f_2, cR cI (b 4) 12 gt] := hD
      refine zcall_i (wc := [cW (b 3) wa ((n : Nat) : Int), cR cI wa 12 f_2]) (wr := [cX x b ik rr hc, cT (b 1) aN ((n : Nat) : Int) ((k : Nat) : Int) ((d : Nat) : Int) ((v : Nat) : Int), cR cI (aN 0) 6 g0, cR cI (aN 1) 6 g1, cR cI (aN 2) 72 g2, cR cI (aN 4) 6 g4, cR cI (aN 5) 6 g5, cR cI (aN 6) 6 g6, cR cI (b 4) 12 gt]) (rest := []) hE hP hD hS hA [8, 9] [0, 1, 2, 3, 4, 5, 6, 7, 10] [0, 1, 2, 3, 4, 5, 6, 7, 9, 10, 8] rfl rfl (by decide) (by decide) (by decide) (fun (u : Unit) => [cX x b ik rr hc, cT (b 1) aN ((n : Nat) : Int) ((k : Nat) : Int) ((d : Nat) : Int) ((v : Nat) : Int), cR cI (aN 0) 6 g0, cR cI (aN 1) 6 g1, cR cI (aN 2) 72 g2, cR cI (aN 4) 6 g4, cR cI (aN 5) 6 g5, cR cI (aN 6) 6 g6, cW (b 3) wa ((n : Nat) : Int), cR cI wa 12 f_2, cR cI (b 4) 12 gt]) (fun u => rfl) (fun hPc hDc => zrunVN (As := []) (rest := []) (q0 := 0) (ci := 2) K k_X2_order nk_X3_93 ⟨⟨rfl, rfl⟩, ⟨Nat.le_of_ble_eq_true rfl, Nat.le_of_ble_eq_true rfl⟩⟩ rfl rfl hPc hDc (c_X2_order l D cI (b 3) wa n f_2 (mus n κ ν q1) (by first | assumption | omega) hf2_83 (fun j hj => hμ q1 j (by omega) hj) _) rfl hl.1 rfl (Nat.le_of_ble_eq_true rfl) dX3_step_86 ⟨Nat.zero_le _, Nat.zero_le _⟩) (by decide) (fun z u H locs hpost hP hD hS => ?_)
      subst hpost
      have hP : va_P D cls [cX x b ik rr hc, cT (b 1) aN ((n : Nat) : Int) ((k : Nat) : Int) ((d : Nat) : Int) ((v : Nat) : Int), cR cI (aN 0) 6 g0, cR cI (aN 1) 6 g1, cR cI (aN 2) 72 g2, cR cI (aN 4) 6 g4, cR cI (aN 5) 6 g5, cR cI (aN 6) 6 g6, cW (b 3) wa ((n : Nat) : Int), cR cI wa 12 f_2, cR cI (b 4) 12 gt] H := hP
      have hD : va_D (va_A [cX x b ik rr hc, cT (b 1) aN ((n : Nat) : Int) ((k : Nat) : Int) ((d : Nat) : Int) ((v : Nat) : Int), cR cI (aN 0) 6 g0, cR cI (aN 1) 6 g1, cR cI (aN 2) 72 g2, cR cI (aN 4) 6 g4, cR cI (aN 5) 6 g5, cR cI (aN 6) 6 g6, cW (b 3) wa w0, cR cI wa 12 gw, cR cI (b 4) 12 gt] sz) [cX x b ik rr hc, cT (b 1) aN ((n : Nat) : Int) ((k : Nat) : Int) ((d : Nat) : Int) ((v : Nat) : Int), cR cI (aN 0) 6 g0, cR cI (aN 1) 6 g1, cR cI (aN 2) 72 g2, cR cI (aN 4) 6 g4, cR cI (aN 5) 6 g5, cR cI (aN 6) 6 g6, cW (b 3) wa ((n : Nat) : Int), cR cI wa 12 f_2, cR cI (b 4) 12 gt] := hD
      refine W.eq (g2 := F0 m 89 ls [.int (zI (((odN (mus n κ ν q1) n n) : Nat) : Int))]) rfl ?_
      rw [← hQf]
      exact z_iret K hS (((n : Nat) : Int), f_2, gt) ⟨(by simp only [fStep, chk_t (show q1 < k by omega), c_15]; rfl), (by (try dsimp only); omega)⟩ hP hD dX3_step_89
    · refine lv_tableIn (tgt := 90) hx hb dX3_step_15 (by rw [zI_toInt (by omega)]; omega) (by rw [zI_toInt (by omega)]; omega) (by rw [zI_toInt (by omega), c_15]; rfl) (by decide) ?_
      refine lv_aload_n hx hb dX3_step_90 rfl (lv_at hl 0 rfl) ?_
      refine va_get (D := D) (ci := 3) (v := .ref (b 1)) (C := RX3) (T := TX3) (N := 10) hx hb hts inT_X3 hown hE.1 hP 0 rfl rfl 1 (by decide) (hts _ qf_X3_19) (fun _ h9 => h9) rfl dX3_step_91 ?_
      refine lv_iload_n hx hb dX3_step_94 rfl (lv_at hl 1 rfl) ?_
      refine zcall_i (wc := [cT (b 1) aN ((n : Nat) : Int) ((k : Nat) : Int) ((d : Nat) : Int) ((v : Nat) : Int), cR cI (aN 0) 6 g0, cR cI (aN 4) 6 g4, cR cI (aN 5) 6 g5, cR cI (aN 6) 6 g6]) (wr := [cX x b ik rr hc, cR cI (aN 1) 6 g1, cR cI (aN 2) 72 g2, cW (b 3) wa w0, cR cI wa 12 gw, cR cI (b 4) 12 gt]) (rest := []) hE hP hD hS hA [1, 2, 5, 6, 7] [0, 3, 4, 8, 9, 10] [0, 6, 7, 1, 2, 8, 9, 10, 3, 4, 5] rfl rfl (by decide) (by decide) (by decide) (fun (u : Unit) => [cX x b ik rr hc, cT (b 1) aN ((n : Nat) : Int) ((k : Nat) : Int) ((d : Nat) : Int) ((v : Nat) : Int), cR cI (aN 0) 6 g0, cR cI (aN 1) 6 g1, cR cI (aN 2) 72 g2, cR cI (aN 4) 6 g4, cR cI (aN 5) 6 g5, cR cI (aN 6) 6 g6, cW (b 3) wa w0, cR cI wa 12 gw, cR cI (b 4) 12 gt]) (fun u => rfl) (fun hPc hDc => zrunVN (As := [.int (zI ((q1 : Nat) : Int))]) (rest := []) (q0 := 0) (ci := 1) K k_X1_possibleNumbers nk_X3_96 ⟨⟨rfl, rfl⟩, ⟨Nat.le_of_ble_eq_true rfl, Nat.le_of_ble_eq_true rfl⟩⟩ rfl rfl hPc hDc (c_X1_possibleNumbers l D cI (b 1) aN n k d v g0 g4 g5 g6 κ ss sf st q1 (by first | assumption | omega) (by first | assumption | omega) (by first | assumption | omega) (by first | assumption | omega) (by first | assumption | omega) (by first | assumption | omega) (by first | assumption | omega) (by first | assumption | omega) (by first | assumption | omega) (by first | assumption | omega) (by first | assumption | omega) (by first | assumption | omega) _) rfl hl.1 rfl (Nat.le_of_ble_eq_true rfl) dX3_step_95 ⟨Nat.zero_le _, Nat.zero_le _⟩) (by decide) (fun z u H locs hpost hP hD hS => ?_)
      subst hpost
      have hP : va_P D cls [cX x b ik rr hc, cT (b 1) aN ((n : Nat) : Int) ((k : Nat) : Int) ((d : Nat) : Int) ((v : Nat) : Int), cR cI (aN 0) 6 g0, cR cI (aN 1) 6 g1, cR cI (aN 2) 72 g2, cR cI (aN 4) 6 g4, cR cI (aN 5) 6 g5, cR cI (aN 6) 6 g6, cW (b 3) wa w0, cR cI wa 12 gw, cR cI (b 4) 12 gt] H := hP
      have hD : va_D (va_A [cX x b ik rr hc, cT (b 1) aN ((n : Nat) : Int) ((k : Nat) : Int) ((d : Nat) : Int) ((v : Nat) : Int), cR cI (aN 0) 6 g0, cR cI (aN 1) 6 g1, cR cI (aN 2) 72 g2, cR cI (aN 4) 6 g4, cR cI (aN 5) 6 g5, cR cI (aN 6) 6 g6, cW (b 3) wa w0, cR cI wa 12 gw, cR cI (b 4) 12 gt] sz) [cX x b ik rr hc, cT (b 1) aN ((n : Nat) : Int) ((k : Nat) : Int) ((d : Nat) : Int) ((v : Nat) : Int), cR cI (aN 0) 6 g0, cR cI (aN 1) 6 g1, cR cI (aN 2) 72 g2, cR cI (aN 4) 6 g4, cR cI (aN 5) 6 g5, cR cI (aN 6) 6 g6, cW (b 3) wa w0, cR cI wa 12 gw, cR cI (b 4) 12 gt] := hD
      refine W.eq (g2 := F0 m 98 ls [.int (zI (((btN (fun nm => agB n (κ q1) nm ss sf st q1 v) 10) : Nat) : Int))]) rfl ?_
      rw [← hQf]
      exact z_iret K hS (w0, gw, gt) ⟨(by simp only [fStep, chk_t (show q1 < k by omega), c_15]; rfl), (by (try dsimp only); omega)⟩ hP hD dX3_step_98
    · refine lv_tableIn (tgt := 99) hx hb dX3_step_15 (by rw [zI_toInt (by omega)]; omega) (by rw [zI_toInt (by omega)]; omega) (by rw [zI_toInt (by omega), c_15]; rfl) (by decide) ?_
      refine lv_aload_n hx hb dX3_step_99 rfl (lv_at hl 0 rfl) ?_
      refine lv_aload_n hx hb dX3_step_100 rfl (lv_at hl 0 rfl) ?_
      refine va_get (D := D) (ci := 3) (v := .ref (b 1)) (C := RX3) (T := TX3) (N := 10) hx hb hts inT_X3 hown hE.1 hP 0 rfl rfl 1 (by decide) (hts _ qf_X3_19) (fun _ h9 => h9) rfl dX3_step_101 ?_
      refine va_getN (D := D) (ci := 1) (v := .ref (aN 0)) (C := RX1) (T := TX1) (N := 11) hx hb hts inT_X1 hown hE.1 hP 1 rfl rfl 4 (by decide) (va_Nw.use rfl (hE.2 _ nf_X3_80 rfl)) (fun _ h9 => h9) rfl dX3_step_104 ?_
      refine lv_iload_n hx hb dX3_step_107 rfl (lv_at hl 1 rfl) ?_
      refine z_iald hx hb hE hP 2 rfl q1 (by omega) (by omega) (by first | decide | omega) ((κ q1 : Nat) : Int) (hg0 q1 (by omega)) dX3_step_108 ?_
      refine lv_aload_n hx hb dX3_step_109 rfl (lv_at hl 0 rfl) ?_
      refine va_get (D := D) (ci := 3) (v := .ref (b 1)) (C := RX3) (T := TX3) (N := 10) hx hb hts inT_X3 hown hE.1 hP 0 rfl rfl 1 (by decide) (hts _ qf_X3_19) (fun _ h9 => h9) rfl dX3_step_110 ?_
      refine lv_iload_n hx hb dX3_step_113 rfl (lv_at hl 1 rfl) ?_
      refine zcall_i (wc := [cT (b 1) aN ((n : Nat) : Int) ((k : Nat) : Int) ((d : Nat) : Int) ((v : Nat) : Int), cR cI (aN 0) 6 g0, cR cI (aN 4) 6 g4, cR cI (aN 5) 6 g5, cR cI (aN 6) 6 g6]) (wr := [cX x b ik rr hc, cR cI (aN 1) 6 g1, cR cI (aN 2) 72 g2, cW (b 3) wa w0, cR cI wa 12 gw, cR cI (b 4) 12 gt]) (rest := [.int (zI ((κ q1 : Nat) : Int)), .ref x]) hE hP hD hS hA [1, 2, 5, 6, 7] [0, 3, 4, 8, 9, 10] [0, 6, 7, 1, 2, 8, 9, 10, 3, 4, 5] rfl rfl (by decide) (by decide) (by decide) (fun (u : Unit) => [cX x b ik rr hc, cT (b 1) aN ((n : Nat) : Int) ((k : Nat) : Int) ((d : Nat) : Int) ((v : Nat) : Int), cR cI (aN 0) 6 g0, cR cI (aN 1) 6 g1, cR cI (aN 2) 72 g2, cR cI (aN 4) 6 g4, cR cI (aN 5) 6 g5, cR cI (aN 6) 6 g6, cW (b 3) wa w0, cR cI wa 12 gw, cR cI (b 4) 12 gt]) (fun u => rfl) (fun hPc hDc => zrunVN (As := [.int (zI ((q1 : Nat) : Int))]) (rest := [.int (zI ((κ q1 : Nat) : Int)), .ref x]) (q0 := 0) (ci := 1) K k_X1_possibleNumbers nk_X3_96 ⟨⟨rfl, rfl⟩, ⟨Nat.le_of_ble_eq_true rfl, Nat.le_of_ble_eq_true rfl⟩⟩ rfl rfl hPc hDc (c_X1_possibleNumbers l D cI (b 1) aN n k d v g0 g4 g5 g6 κ ss sf st q1 (by first | assumption | omega) (by first | assumption | omega) (by first | assumption | omega) (by first | assumption | omega) (by first | assumption | omega) (by first | assumption | omega) (by first | assumption | omega) (by first | assumption | omega) (by first | assumption | omega) (by first | assumption | omega) (by first | assumption | omega) (by first | assumption | omega) _) rfl hl.1 rfl (Nat.le_of_ble_eq_true rfl) dX3_step_114 ⟨Nat.zero_le _, Nat.zero_le _⟩) (by decide) (fun z u H locs hpost hP hD hS => ?_)
      subst hpost
      have hP : va_P D cls [cX x b ik rr hc, cT (b 1) aN ((n : Nat) : Int) ((k : Nat) : Int) ((d : Nat) : Int) ((v : Nat) : Int), cR cI (aN 0) 6 g0, cR cI (aN 1) 6 g1, cR cI (aN 2) 72 g2, cR cI (aN 4) 6 g4, cR cI (aN 5) 6 g5, cR cI (aN 6) 6 g6, cW (b 3) wa w0, cR cI wa 12 gw, cR cI (b 4) 12 gt] H := hP
      have hD : va_D (va_A [cX x b ik rr hc, cT (b 1) aN ((n : Nat) : Int) ((k : Nat) : Int) ((d : Nat) : Int) ((v : Nat) : Int), cR cI (aN 0) 6 g0, cR cI (aN 1) 6 g1, cR cI (aN 2) 72 g2, cR cI (aN 4) 6 g4, cR cI (aN 5) 6 g5, cR cI (aN 6) 6 g6, cW (b 3) wa w0, cR cI wa 12 gw, cR cI (b 4) 12 gt] sz) [cX x b ik rr hc, cT (b 1) aN ((n : Nat) : Int) ((k : Nat) : Int) ((d : Nat) : Int) ((v : Nat) : Int), cR cI (aN 0) 6 g0, cR cI (aN 1) 6 g1, cR cI (aN 2) 72 g2, cR cI (aN 4) 6 g4, cR cI (aN 5) 6 g5, cR cI (aN 6) 6 g6, cW (b 3) wa w0, cR cI wa 12 gw, cR cI (b 4) 12 gt] := hD
      refine W.eq (g2 := F0 m 117 ls [.int (zI (((btN (fun nm => agB n (κ q1) nm ss sf st q1 v) 10) : Nat) : Int)), .int (zI ((κ q1 : Nat) : Int)), .ref x]) rfl ?_
      refine zcall_i (wc := [cX x b ik rr hc, cT (b 1) aN ((n : Nat) : Int) ((k : Nat) : Int) ((d : Nat) : Int) ((v : Nat) : Int), cR cI (b 4) 12 gt]) (wr := [cR cI (aN 0) 6 g0, cR cI (aN 1) 6 g1, cR cI (aN 2) 72 g2, cR cI (aN 4) 6 g4, cR cI (aN 5) 6 g5, cR cI (aN 6) 6 g6, cW (b 3) wa w0, cR cI wa 12 gw]) (rest := []) hE hP hD hS hA [0, 1, 10] [2, 3, 4, 5, 6, 7, 8, 9] [8, 9, 0, 1, 2, 3, 4, 5, 6, 7, 10] rfl rfl (by decide) (by decide) (by decide) (fun (u : (Nat → Int)) => [cX x b ik rr hc, cT (b 1) aN ((n : Nat) : Int) ((k : Nat) : Int) ((d : Nat) : Int) ((v : Nat) : Int), cR cI (aN 0) 6 g0, cR cI (aN 1) 6 g1, cR cI (aN 2) 72 g2, cR cI (aN 4) 6 g4, cR cI (aN 5) 6 g5, cR cI (aN 6) 6 g6, cW (b 3) wa w0, cR cI wa 12 gw, cR cI (b 4) 12 u]) (fun u => rfl) (fun hPc hDc => zrunV (As := [.int (zI ((κ q1 : Nat) : Int)), .int (zI (((btN (fun nm => agB n (κ q1) nm ss sf st q1 v) 10) : Nat) : Int))]) (rest := []) (q0 := 0) (ci := 3) K k_X3_placeToWatch qm_X3_100 ⟨⟨rfl, rfl⟩, ⟨Nat.le_of_ble_eq_true rfl, Nat.le_of_ble_eq_true rfl⟩⟩ rfl rfl hPc hDc (c_X3_placeToWatch l D cI x b ik rr hc aN n k d v gt (κ q1) (fun nm => agB n (κ q1) nm ss sf st q1 v) (by first | assumption | omega) (by first | assumption | omega) _) rfl hl.1 rfl (Nat.le_of_ble_eq_true rfl) dX3_step_117 ⟨Nat.zero_le _, Nat.zero_le _⟩) (by decide) (fun z u H locs hpost hP hD hS => ?_)
      obtain ⟨ot_3, hu⟩ : ∃ z, z = u := ⟨_, rfl⟩
      subst hu
      subst hpost
      have hP : va_P D cls [cX x b ik rr hc, cT (b 1) aN ((n : Nat) : Int) ((k : Nat) : Int) ((d : Nat) : Int) ((v : Nat) : Int), cR cI (aN 0) 6 g0, cR cI (aN 1) 6 g1, cR cI (aN 2) 72 g2, cR cI (aN 4) 6 g4, cR cI (aN 5) 6 g5, cR cI (aN 6) 6 g6, cW (b 3) wa w0, cR cI wa 12 gw, cR cI (b 4) 12 ot_3] H := hP
      have hD : va_D (va_A [cX x b ik rr hc, cT (b 1) aN ((n : Nat) : Int) ((k : Nat) : Int) ((d : Nat) : Int) ((v : Nat) : Int), cR cI (aN 0) 6 g0, cR cI (aN 1) 6 g1, cR cI (aN 2) 72 g2, cR cI (aN 4) 6 g4, cR cI (aN 5) 6 g5, cR cI (aN 6) 6 g6, cW (b 3) wa w0, cR cI wa 12 gw, cR cI (b 4) 12 gt] sz) [cX x b ik rr hc, cT (b 1) aN ((n : Nat) : Int) ((k : Nat) : Int) ((d : Nat) : Int) ((v : Nat) : Int), cR cI (aN 0) 6 g0, cR cI (aN 1) 6 g1, cR cI (aN 2) 72 g2, cR cI (aN 4) 6 g4, cR cI (aN 5) 6 g5, cR cI (aN 6) 6 g6, cW (b 3) wa w0, cR cI wa 12 gw, cR cI (b 4) 12 ot_3] := hD
      refine W.eq (g2 := F0 m 120 ls [.int (zI (if btN (fun nm => agB n (κ q1) nm ss sf st q1 v) 10 = 0 then (-1 : Int) else ((wbN (lw n (κ q1) (fun nm => agB n (κ q1) nm ss sf st q1 v)) n : Nat) : Int)))]) rfl ?_
      rw [← hQf]
      exact z_iret K hS (w0, gw, ot_3) ⟨(by simp only [fStep, chk_t (show q1 < k by omega), c_15]; rfl), (by (try dsimp only); split <;> omega)⟩ hP hD dX3_step_120
    · refine lv_tableOut (tgt := 121) hx hb dX3_step_15 (by rw [zI_toInt (by omega)]; omega) (by decide) ?_
      refine lv_bipush (v := zI (-102)) hx hb dX3_step_121 (by decide) ?_
      rw [← hQf]
      exact z_iret K hS (w0, gw, gt) ⟨(by simp only [fStep, chk_t (show q1 < k by omega), fStp]; rw [if_neg (by omega), if_neg (by omega), if_neg (by omega), if_neg (by omega), if_neg (by omega), if_neg (by omega)]), (by (try dsimp only); omega)⟩ hP hD dX3_step_123
  · have b_8 := b01_eq c_8
    refine lv_bipush (v := zI (-101)) hx hb dX3_step_11 (by decide) ?_
    rw [← hQf]
    exact z_iret K hS (w0, gw, gt) ⟨(by simp only [fStep, chk_f b_8]), (by (try dsimp only); omega)⟩ hP hD dX3_step_13
set_option maxHeartbeats 4000000 in
set_option maxRecDepth 100000 in
theorem c_X3_rings (l : Launch) (D : va_G) (cI : ClassId) (x : Nat) (b : Nat → Nat) (ik rr hc : Int) (aN : Nat → Nat) (n k d v : Nat) (g0 g1 g2 g3 g4 g5 g6 : Nat → Int) (κ ν π ss sf st : Nat → Nat) (wa : Nat) (w0 : Int) (gw : Nat → Int) (y1 : Int) (hT : TI n k d v g0 g1 g2 g3 g4 g5 g6 κ ν π ss sf st) (hy1 : -2147483648 ≤ y1 ∧ y1 < 2147483648) : zMi l yX3_rings cX3_rings 3 (some .int) ({ frames := 3, cells := 0, slots := 0, locals := 66 }) D cI [.ref x, .int (zI y1)] [cX x b ik rr hc, cT (b 1) aN ((n : Nat) : Int) ((k : Nat) : Int) ((d : Nat) : Int) ((v : Nat) : Int), cR cI (aN 2) 72 g2, cW (b 3) wa w0, cR cI wa 12 gw] (fun (z : Int) (u : (Int) × (Nat → Int)) => (z = (fRings n k κ ν y1)) ∧ (-2147483648 ≤ z ∧ z < 2147483648)) (fun (u : (Int) × (Nat → Int)) => [cX x b ik rr hc, cT (b 1) aN ((n : Nat) : Int) ((k : Nat) : Int) ((d : Nat) : Int) ((v : Nat) : Int), cR cI (aN 2) 72 g2, cW (b 3) wa u.1, cR cI wa 12 u.2]) := by
  intro sz
  refine zstart rfl (by decide) (Nat.le_of_ble_eq_true rfl) ?_
  intro p e s m below meth c ls K hnm hsz hP hD hS hl
  generalize hargs : ([.ref x, .int (zI y1)] : List Value).toArray = args at K ⊢
  generalize hQf : MQ below _ args s _ _ _ = Qf
  have K : zK p s m args meth c cX3_rings 3 RX3 (some .int) D cI := K
  obtain ⟨hx, hb, hml, hown, hts, hE, -, -⟩ := id K
  have hA := zhA (ws0 := [cX x b ik rr hc, cT (b 1) aN ((n : Nat) : Int) ((k : Nat) : Int) ((d : Nat) : Int) ((v : Nat) : Int), cR cI (aN 2) 72 g2, cW (b 3) wa w0, cR cI wa 12 gw]) hsz
  have hl : lv_has ls 3 [(0, .ref x), (1, .int (zI y1))] := hl
  obtain ⟨hnk, hd, hv, hg0, hκ, hg1, hν, hg2, hg3, hπ, hπi, hg4, hss, hg5, hsf, hg6, hst⟩ := id hT
  have hn : n ≤ 12 := by omega
  have hk : k ≤ 6 := by omega
  have hμ := mus_lt (k := k) hn hκ hν
  have hμi := mus_inj (k := k) hn hκ hν
  have hρ : ∀ j, j < n → rdc (mus n κ ν) k j < n := fun j hj => rdc_lt hμ (Nat.le_refl k) hj
  have hρi : inj (rdc (mus n κ ν) k) n := rdc_inj hμ hμi (Nat.le_refl k)
  have hod := od_le (φ := rdc (mus n κ ν) k) (n := n) (i := n) hn (Nat.le_refl n)
  have hct := fb_ct_le (fun j => decide (rdc (mus n κ ν) k j = j)) n
  have hct2 := fb_ct_le (fun j => lrB (rdc (mus n κ ν) k) n j) n
  have hmx : mx (rl (rdc (mus n κ ν) k) n) n ≤ n := mx_le (fun i hi => rl_le hi)
  refine lv_iload_n hx hb dX3_rings_0 rfl (lv_at hl 1 rfl) ?_
  refine z_if_lt (tgt := 9) hx hb (by omega) dX3_rings_1 (by decide) (fun c_1 => ?_) (fun c_1 => ?_)
  · refine lv_bipush (v := zI (-102)) hx hb dX3_rings_9 (by decide) ?_
    rw [← hQf]
    exact z_iret K hS (w0, gw) ⟨(by rw [fRings, chk_f (by omega)]), (by (try dsimp only); omega)⟩ hP hD dX3_rings_11
  · refine lv_iload_n hx hb dX3_rings_4 rfl (lv_at hl 1 rfl) ?_
    refine lv_iconst (v := zI 3) hx hb dX3_rings_5 rfl ?_
    refine z_icmp_le (tgt := 12) hx hb (by omega) dX3_rings_6 (by decide) (fun c_6 => ?_) (fun c_6 => ?_)
    · obtain ⟨q1, rfl⟩ : ∃ q : Nat, y1 = (q : Int) := ⟨y1.toNat, by omega⟩
      refine lv_aload_n hx hb dX3_rings_12 rfl (lv_at hl 0 rfl) ?_
      refine va_get (D := D) (ci := 3) (v := .ref (b 1)) (C := RX3) (T := TX3) (N := 10) hx hb hts inT_X3 hown hE.1 hP 0 rfl rfl 1 (by decide) (hts _ qf_X3_19) (fun _ h9 => h9) rfl dX3_rings_13 ?_
      refine zcall_i (wc := [cT (b 1) aN ((n : Nat) : Int) ((k : Nat) : Int) ((d : Nat) : Int) ((v : Nat) : Int)]) (wr := [cX x b ik rr hc, cR cI (aN 2) 72 g2, cW (b 3) wa w0, cR cI wa 12 gw]) (rest := []) hE hP hD hS hA [1] [0, 2, 3, 4] [0, 4, 1, 2, 3] rfl rfl (by decide) (by decide) (by decide) (fun (u : Unit) => [cX x b ik rr hc, cT (b 1) aN ((n : Nat) : Int) ((k : Nat) : Int) ((d : Nat) : Int) ((v : Nat) : Int), cR cI (aN 2) 72 g2, cW (b 3) wa w0, cR cI wa 12 gw]) (fun u => rfl) (fun hPc hDc => zrunVN (As := []) (rest := []) (q0 := 0) (ci := 1) K k_X1_hasRoutine nk_X3_124 ⟨⟨rfl, rfl⟩, ⟨Nat.le_of_ble_eq_true rfl, Nat.le_of_ble_eq_true rfl⟩⟩ rfl rfl hPc hDc (c_X1_hasRoutine l D cI (b 1) aN n k d v (by first | assumption | omega) _) rfl hl.1 rfl (Nat.le_of_ble_eq_true rfl) dX3_rings_16 ⟨Nat.zero_le _, Nat.zero_le _⟩) (by decide) (fun z u H locs hpost hP hD hS => ?_)
      subst hpost
      have hP : va_P D cls [cX x b ik rr hc, cT (b 1) aN ((n : Nat) : Int) ((k : Nat) : Int) ((d : Nat) : Int) ((v : Nat) : Int), cR cI (aN 2) 72 g2, cW (b 3) wa w0, cR cI wa 12 gw] H := hP
      have hD : va_D (va_A [cX x b ik rr hc, cT (b 1) aN ((n : Nat) : Int) ((k : Nat) : Int) ((d : Nat) : Int) ((v : Nat) : Int), cR cI (aN 2) 72 g2, cW (b 3) wa w0, cR cI wa 12 gw] sz) [cX x b ik rr hc, cT (b 1) aN ((n : Nat) : Int) ((k : Nat) : Int) ((d : Nat) : Int) ((v : Nat) : Int), cR cI (aN 2) 72 g2, cW (b 3) wa w0, cR cI wa 12 gw] := hD
      refine W.eq (g2 := F0 m 19 ls [.int (zI (b01 (0 < k)))]) rfl ?_
      refine z_if_ne (tgt := 25) hx hb (by have := b01_r (0 < k); omega) dX3_rings_19 (by decide) (fun c_19 => ?_) (fun c_19 => ?_)
      · have b_19 := b01_ne c_19
        refine lv_aload_n hx hb dX3_rings_25 rfl (lv_at hl 0 rfl) ?_
        refine zcall_r (wc := [cX x b ik rr hc, cT (b 1) aN ((n : Nat) : Int) ((k : Nat) : Int) ((d : Nat) : Int) ((v : Nat) : Int), cR cI (aN 2) 72 g2, cW (b 3) wa w0, cR cI wa 12 gw]) (wr := []) (rest := []) hE hP hD hS hA [0, 1, 2, 3, 4] [] [0, 1, 2, 3, 4] rfl rfl (by decide) (by decide) (by decide) (fun (u : (Nat → Int)) => [cX x b ik rr hc, cT (b 1) aN ((n : Nat) : Int) ((k : Nat) : Int) ((d : Nat) : Int) ((v : Nat) : Int), cR cI (aN 2) 72 g2, cW (b 3) wa ((n : Nat) : Int), cR cI wa 12 u]) (fun u => rfl) (fun hPc hDc => zrunV (As := []) (rest := []) (q0 := 0) (ci := 3) K k_X3_wayOfRoutine qm_X3_127 ⟨⟨rfl, rfl⟩, ⟨Nat.le_of_ble_eq_true rfl, Nat.le_of_ble_eq_true rfl⟩⟩ rfl rfl hPc hDc (c_X3_wayOfRoutine l D cI x b ik rr hc aN n k d v g2 (mus n κ ν) wa w0 gw (by first | assumption | omega) (by first | assumption | omega) (by first | assumption | omega) (by first | assumption | omega) _) rfl hl.1 rfl (Nat.le_of_ble_eq_true rfl) dX3_rings_26 ⟨Nat.zero_le _, Nat.zero_le _⟩) (by decide) (fun u H locs hpost hP hD hS => ?_)
        obtain ⟨f_1, hu⟩ : ∃ z, z = u := ⟨_, rfl⟩
        subst hu
        have hf2_26 := hpost
        have hf2_26 : ∀ j, j < n → f_1 j = ((rdc (mus n κ ν) k j : Nat) : Int) := hf2_26
        have hP : va_P D cls [cX x b ik rr hc, cT (b 1) aN ((n : Nat) : Int) ((k : Nat) : Int) ((d : Nat) : Int) ((v : Nat) : Int), cR cI (aN 2) 72 g2, cW (b 3) wa ((n : Nat) : Int), cR cI wa 12 f_1] H := hP
        have hD : va_D (va_A [cX x b ik rr hc, cT (b 1) aN ((n : Nat) : Int) ((k : Nat) : Int) ((d : Nat) : Int) ((v : Nat) : Int), cR cI (aN 2) 72 g2, cW (b 3) wa w0, cR cI wa 12 gw] sz) [cX x b ik rr hc, cT (b 1) aN ((n : Nat) : Int) ((k : Nat) : Int) ((d : Nat) : Int) ((v : Nat) : Int), cR cI (aN 2) 72 g2, cW (b 3) wa ((n : Nat) : Int), cR cI wa 12 f_1] := hD
        refine lv_astore_n (lv' := [(2, .ref (b 3)), (0, .ref x), (1, .int (zI ((q1 : Nat) : Int)))]) hx hb dX3_rings_29 rfl hl (by decide) rfl (fun ls hl => ?_)
        refine lv_iload_n hx hb dX3_rings_30 rfl (lv_at hl 2 rfl) ?_
        rcases (show ((q1 : Nat) : Int) = 0 ∨ ((q1 : Nat) : Int) = 1 ∨ ((q1 : Nat) : Int) = 2 ∨ (((q1 : Nat) : Int) ≠ 0 ∧ ((q1 : Nat) : Int) ≠ 1 ∧ ((q1 : Nat) : Int) ≠ 2) by omega) with c_31 | c_31 | c_31 | c_31
        · refine lv_tableIn (tgt := 56) hx hb dX3_rings_31 (by rw [zI_toInt (by omega)]; omega) (by rw [zI_toInt (by omega)]; omega) (by rw [zI_toInt (by omega), c_31]; rfl) (by decide) ?_
          refine lv_aload_n hx hb dX3_rings_56 rfl (lv_at hl 0 rfl) ?_
          refine zcall_i (wc := [cW (b 3) wa ((n : Nat) : Int), cR cI wa 12 f_1]) (wr := [cX x b ik rr hc, cT (b 1) aN ((n : Nat) : Int) ((k : Nat) : Int) ((d : Nat) : Int) ((v : Nat) : Int), cR cI (aN 2) 72 g2]) (rest := []) hE hP hD hS hA [3, 4] [0, 1, 2] [0, 1, 2, 3, 4] rfl rfl (by decide) (by decide) (by decide) (fun (u : Unit) => [cX x b ik rr hc, cT (b 1) aN ((n : Nat) : Int) ((k : Nat) : Int) ((d : Nat) : Int) ((v : Nat) : Int), cR cI (aN 2) 72 g2, cW (b 3) wa ((n : Nat) : Int), cR cI wa 12 f_1]) (fun u => rfl) (fun hPc hDc => zrunVN (As := []) (rest := []) (q0 := 0) (ci := 2) K k_X2_order nk_X3_93 ⟨⟨rfl, rfl⟩, ⟨Nat.le_of_ble_eq_true rfl, Nat.le_of_ble_eq_true rfl⟩⟩ rfl rfl hPc hDc (c_X2_order l D cI (b 3) wa n f_1 (rdc (mus n κ ν) k) (by first | assumption | omega) hf2_26 (by first | assumption | omega) _) rfl hl.1 rfl (Nat.le_of_ble_eq_true rfl) dX3_rings_57 ⟨Nat.zero_le _, Nat.zero_le _⟩) (by decide) (fun z u H locs hpost hP hD hS => ?_)
          subst hpost
          have hP : va_P D cls [cX x b ik rr hc, cT (b 1) aN ((n : Nat) : Int) ((k : Nat) : Int) ((d : Nat) : Int) ((v : Nat) : Int), cR cI (aN 2) 72 g2, cW (b 3) wa ((n : Nat) : Int), cR cI wa 12 f_1] H := hP
          have hD : va_D (va_A [cX x b ik rr hc, cT (b 1) aN ((n : Nat) : Int) ((k : Nat) : Int) ((d : Nat) : Int) ((v : Nat) : Int), cR cI (aN 2) 72 g2, cW (b 3) wa w0, cR cI wa 12 gw] sz) [cX x b ik rr hc, cT (b 1) aN ((n : Nat) : Int) ((k : Nat) : Int) ((d : Nat) : Int) ((v : Nat) : Int), cR cI (aN 2) 72 g2, cW (b 3) wa ((n : Nat) : Int), cR cI wa 12 f_1] := hD
          refine W.eq (g2 := F0 m 60 ls [.int (zI (((odN (rdc (mus n κ ν) k) n n) : Nat) : Int))]) rfl ?_
          rw [← hQf]
          exact z_iret K hS (((n : Nat) : Int), f_1) ⟨(by simp only [fRings, chk_t (show q1 < 4 by omega)]; rw [if_neg (by omega), show q1 = 0 by omega]; rfl), (by (try dsimp only); omega)⟩ hP hD dX3_rings_60
        · refine lv_tableIn (tgt := 61) hx hb dX3_rings_31 (by rw [zI_toInt (by omega)]; omega) (by rw [zI_toInt (by omega)]; omega) (by rw [zI_toInt (by omega), c_31]; rfl) (by decide) ?_
          refine lv_aload_n hx hb dX3_rings_61 rfl (lv_at hl 0 rfl) ?_
          refine zcall_i (wc := [cW (b 3) wa ((n : Nat) : Int), cR cI wa 12 f_1]) (wr := [cX x b ik rr hc, cT (b 1) aN ((n : Nat) : Int) ((k : Nat) : Int) ((d : Nat) : Int) ((v : Nat) : Int), cR cI (aN 2) 72 g2]) (rest := []) hE hP hD hS hA [3, 4] [0, 1, 2] [0, 1, 2, 3, 4] rfl rfl (by decide) (by decide) (by decide) (fun (u : Unit) => [cX x b ik rr hc, cT (b 1) aN ((n : Nat) : Int) ((k : Nat) : Int) ((d : Nat) : Int) ((v : Nat) : Int), cR cI (aN 2) 72 g2, cW (b 3) wa ((n : Nat) : Int), cR cI wa 12 f_1]) (fun u => rfl) (fun hPc hDc => zrunVN (As := []) (rest := []) (q0 := 0) (ci := 2) K k_X2_ringCount nk_X3_148 ⟨⟨rfl, rfl⟩, ⟨Nat.le_of_ble_eq_true rfl, Nat.le_of_ble_eq_true rfl⟩⟩ rfl rfl hPc hDc (c_X2_ringCount l D cI (b 3) wa n f_1 (rdc (mus n κ ν) k) (by first | assumption | omega) hf2_26 (by first | assumption | omega) (by first | assumption | omega) _) rfl hl.1 rfl (Nat.le_of_ble_eq_true rfl) dX3_rings_62 ⟨Nat.zero_le _, Nat.zero_le _⟩) (by decide) (fun z u H locs hpost hP hD hS => ?_)
          subst hpost
          have hP : va_P D cls [cX x b ik rr hc, cT (b 1) aN ((n : Nat) : Int) ((k : Nat) : Int) ((d : Nat) : Int) ((v : Nat) : Int), cR cI (aN 2) 72 g2, cW (b 3) wa ((n : Nat) : Int), cR cI wa 12 f_1] H := hP
          have hD : va_D (va_A [cX x b ik rr hc, cT (b 1) aN ((n : Nat) : Int) ((k : Nat) : Int) ((d : Nat) : Int) ((v : Nat) : Int), cR cI (aN 2) 72 g2, cW (b 3) wa w0, cR cI wa 12 gw] sz) [cX x b ik rr hc, cT (b 1) aN ((n : Nat) : Int) ((k : Nat) : Int) ((d : Nat) : Int) ((v : Nat) : Int), cR cI (aN 2) 72 g2, cW (b 3) wa ((n : Nat) : Int), cR cI wa 12 f_1] := hD
          refine W.eq (g2 := F0 m 65 ls [.int (zI (((fb_ct (fun j => lrB (rdc (mus n κ ν) k) n j) n) : Nat) : Int))]) rfl ?_
          rw [← hQf]
          exact z_iret K hS (((n : Nat) : Int), f_1) ⟨(by simp only [fRings, chk_t (show q1 < 4 by omega)]; rw [if_neg (by omega), show q1 = 1 by omega]; rfl), (by (try dsimp only); omega)⟩ hP hD dX3_rings_65
        · refine lv_tableIn (tgt := 66) hx hb dX3_rings_31 (by rw [zI_toInt (by omega)]; omega) (by rw [zI_toInt (by omega)]; omega) (by rw [zI_toInt (by omega), c_31]; rfl) (by decide) ?_
          refine lv_aload_n hx hb dX3_rings_66 rfl (lv_at hl 0 rfl) ?_
          refine zcall_i (wc := [cW (b 3) wa ((n : Nat) : Int), cR cI wa 12 f_1]) (wr := [cX x b ik rr hc, cT (b 1) aN ((n : Nat) : Int) ((k : Nat) : Int) ((d : Nat) : Int) ((v : Nat) : Int), cR cI (aN 2) 72 g2]) (rest := []) hE hP hD hS hA [3, 4] [0, 1, 2] [0, 1, 2, 3, 4] rfl rfl (by decide) (by decide) (by decide) (fun (u : Unit) => [cX x b ik rr hc, cT (b 1) aN ((n : Nat) : Int) ((k : Nat) : Int) ((d : Nat) : Int) ((v : Nat) : Int), cR cI (aN 2) 72 g2, cW (b 3) wa ((n : Nat) : Int), cR cI wa 12 f_1]) (fun u => rfl) (fun hPc hDc => zrunVN (As := []) (rest := []) (q0 := 0) (ci := 2) K k_X2_longestRing nk_X3_151 ⟨⟨rfl, rfl⟩, ⟨Nat.le_of_ble_eq_true rfl, Nat.le_of_ble_eq_true rfl⟩⟩ rfl rfl hPc hDc (c_X2_longestRing l D cI (b 3) wa n f_1 (rdc (mus n κ ν) k) (by first | assumption | omega) hf2_26 (by first | assumption | omega) _) rfl hl.1 rfl (Nat.le_of_ble_eq_true rfl) dX3_rings_67 ⟨Nat.zero_le _, Nat.zero_le _⟩) (by decide) (fun z u H locs hpost hP hD hS => ?_)
          subst hpost
          have hP : va_P D cls [cX x b ik rr hc, cT (b 1) aN ((n : Nat) : Int) ((k : Nat) : Int) ((d : Nat) : Int) ((v : Nat) : Int), cR cI (aN 2) 72 g2, cW (b 3) wa ((n : Nat) : Int), cR cI wa 12 f_1] H := hP
          have hD : va_D (va_A [cX x b ik rr hc, cT (b 1) aN ((n : Nat) : Int) ((k : Nat) : Int) ((d : Nat) : Int) ((v : Nat) : Int), cR cI (aN 2) 72 g2, cW (b 3) wa w0, cR cI wa 12 gw] sz) [cX x b ik rr hc, cT (b 1) aN ((n : Nat) : Int) ((k : Nat) : Int) ((d : Nat) : Int) ((v : Nat) : Int), cR cI (aN 2) 72 g2, cW (b 3) wa ((n : Nat) : Int), cR cI wa 12 f_1] := hD
          refine W.eq (g2 := F0 m 70 ls [.int (zI (((mx (rl (rdc (mus n κ ν) k) n) n) : Nat) : Int))]) rfl ?_
          rw [← hQf]
          exact z_iret K hS (((n : Nat) : Int), f_1) ⟨(by simp only [fRings, chk_t (show q1 < 4 by omega)]; rw [if_neg (by omega), show q1 = 2 by omega]; rfl), (by (try dsimp only); omega)⟩ hP hD dX3_rings_70
        · refine lv_tableOut (tgt := 71) hx hb dX3_rings_31 (by rw [zI_toInt (by omega)]; omega) (by decide) ?_
          refine lv_aload_n hx hb dX3_rings_71 rfl (lv_at hl 0 rfl) ?_
          refine zcall_i (wc := [cW (b 3) wa ((n : Nat) : Int), cR cI wa 12 f_1]) (wr := [cX x b ik rr hc, cT (b 1) aN ((n : Nat) : Int) ((k : Nat) : Int) ((d : Nat) : Int) ((v : Nat) : Int), cR cI (aN 2) 72 g2]) (rest := []) hE hP hD hS hA [3, 4] [0, 1, 2] [0, 1, 2, 3, 4] rfl rfl (by decide) (by decide) (by decide) (fun (u : Unit) => [cX x b ik rr hc, cT (b 1) aN ((n : Nat) : Int) ((k : Nat) : Int) ((d : Nat) : Int) ((v : Nat) : Int), cR cI (aN 2) 72 g2, cW (b 3) wa ((n : Nat) : Int), cR cI wa 12 f_1]) (fun u => rfl) (fun hPc hDc => zrunVN (As := []) (rest := []) (q0 := 0) (ci := 2) K k_X2_stayCount nk_X3_90 ⟨⟨rfl, rfl⟩, ⟨Nat.le_of_ble_eq_true rfl, Nat.le_of_ble_eq_true rfl⟩⟩ rfl rfl hPc hDc (c_X2_stayCount l D cI (b 3) wa n f_1 (rdc (mus n κ ν) k) (by first | assumption | omega) hf2_26 (by first | assumption | omega) _) rfl hl.1 rfl (Nat.le_of_ble_eq_true rfl) dX3_rings_72 ⟨Nat.zero_le _, Nat.zero_le _⟩) (by decide) (fun z u H locs hpost hP hD hS => ?_)
          subst hpost
          have hP : va_P D cls [cX x b ik rr hc, cT (b 1) aN ((n : Nat) : Int) ((k : Nat) : Int) ((d : Nat) : Int) ((v : Nat) : Int), cR cI (aN 2) 72 g2, cW (b 3) wa ((n : Nat) : Int), cR cI wa 12 f_1] H := hP
          have hD : va_D (va_A [cX x b ik rr hc, cT (b 1) aN ((n : Nat) : Int) ((k : Nat) : Int) ((d : Nat) : Int) ((v : Nat) : Int), cR cI (aN 2) 72 g2, cW (b 3) wa w0, cR cI wa 12 gw] sz) [cX x b ik rr hc, cT (b 1) aN ((n : Nat) : Int) ((k : Nat) : Int) ((d : Nat) : Int) ((v : Nat) : Int), cR cI (aN 2) 72 g2, cW (b 3) wa ((n : Nat) : Int), cR cI wa 12 f_1] := hD
          refine W.eq (g2 := F0 m 75 ls [.int (zI (((fb_ct (fun j => decide ((rdc (mus n κ ν) k) j = j)) n) : Nat) : Int))]) rfl ?_
          rw [← hQf]
          exact z_iret K hS (((n : Nat) : Int), f_1) ⟨(by simp only [fRings, chk_t (show q1 < 4 by omega)]; rw [if_neg (by omega), show q1 = 3 by omega]; rfl), (by (try dsimp only); omega)⟩ hP hD dX3_rings_75
      · have b_19 := b01_eq c_19
        refine lv_bipush (v := zI (-103)) hx hb dX3_rings_22 (by decide) ?_
        rw [← hQf]
        exact z_iret K hS (w0, gw) ⟨(by simp only [fRings, chk_t (show q1 < 4 by omega)]; rw [if_pos (by omega)]), (by (try dsimp only); omega)⟩ hP hD dX3_rings_24
    · refine lv_bipush (v := zI (-102)) hx hb dX3_rings_9 (by decide) ?_
      rw [← hQf]
      exact z_iret K hS (w0, gw) ⟨(by rw [fRings, chk_f (by omega)]), (by (try dsimp only); omega)⟩ hP hD dX3_rings_11
set_option maxHeartbeats 4000000 in
set_option maxRecDepth 100000 in
theorem c_X3_bring (l : Launch) (D : va_G) (cI : ClassId) (x : Nat) (b : Nat → Nat) (ik rr hc : Int) (aN : Nat → Nat) (n k d v : Nat) (g0 g1 g2 g3 g4 g5 g6 : Nat → Int) (κ ν π ss sf st : Nat → Nat) (gt : Nat → Int) (y1 y2 y3 : Int) (hT : TI n k d v g0 g1 g2 g3 g4 g5 g6 κ ν π ss sf st) (hy1 : -2147483648 ≤ y1 ∧ y1 < 2147483648) (hy2 : -2147483648 ≤ y2 ∧ y2 < 2147483648) (hy3 : -2147483648 ≤ y3 ∧ y3 < 2147483648) : zMi l yX3_bring cX3_bring 5 (some .int) ({ frames := 3, cells := 0, slots := 0, locals := 68 }) D cI [.ref x, .int (zI y1), .int (zI y2), .int (zI y3)] [cX x b ik rr hc, cT (b 1) aN ((n : Nat) : Int) ((k : Nat) : Int) ((d : Nat) : Int) ((v : Nat) : Int), cR cI (aN 2) 72 g2, cR cI (aN 3) 12 g3, cR cI (b 4) 12 gt] (fun (z : Int) (u : (Nat → Int)) => (z = (fBring n k κ ν π y1 y2 y3)) ∧ (-2147483648 ≤ z ∧ z < 2147483648)) (fun (u : (Nat → Int)) => [cX x b ik rr hc, cT (b 1) aN ((n : Nat) : Int) ((k : Nat) : Int) ((d : Nat) : Int) ((v : Nat) : Int), cR cI (aN 2) 72 g2, cR cI (aN 3) 12 g3, cR cI (b 4) 12 u]) := by
  intro sz
  refine zstart rfl (by decide) (Nat.le_of_ble_eq_true rfl) ?_
  intro p e s m below meth c ls K hnm hsz hP hD hS hl
  generalize hargs : ([.ref x, .int (zI y1), .int (zI y2), .int (zI y3)] : List Value).toArray = args at K ⊢
  generalize hQf : MQ below _ args s _ _ _ = Qf
  have K : zK p s m args meth c cX3_bring 5 RX3 (some .int) D cI := K
  obtain ⟨hx, hb, hml, hown, hts, hE, -, -⟩ := id K
  have hA := zhA (ws0 := [cX x b ik rr hc, cT (b 1) aN ((n : Nat) : Int) ((k : Nat) : Int) ((d : Nat) : Int) ((v : Nat) : Int), cR cI (aN 2) 72 g2, cR cI (aN 3) 12 g3, cR cI (b 4) 12 gt]) hsz
  have hl : lv_has ls 5 [(0, .ref x), (1, .int (zI y1)), (2, .int (zI y2)), (3, .int (zI y3))] := hl
  obtain ⟨hnk, hd, hv, hg0, hκ, hg1, hν, hg2, hg3, hπ, hπi, hg4, hss, hg5, hsf, hg6, hst⟩ := id hT
  have hn : n ≤ 12 := by omega
  have hk : k ≤ 6 := by omega
  have hμ := mus_lt (k := k) hn hκ hν
  have hμi := mus_inj (k := k) hn hκ hν
  have hρ : ∀ j, j < n → rdc (mus n κ ν) k j < n := fun j hj => rdc_lt hμ (Nat.le_refl k) hj
  have hρi : inj (rdc (mus n κ ν) k) n := rdc_inj hμ hμi (Nat.le_refl k)
  refine lv_aload_n hx hb dX3_bring_0 rfl (lv_at hl 0 rfl) ?_
  refine va_get (D := D) (ci := 3) (v := .ref (b 1)) (C := RX3) (T := TX3) (N := 10) hx hb hts inT_X3 hown hE.1 hP 0 rfl rfl 1 (by decide) (hts _ qf_X3_19) (fun _ h9 => h9) rfl dX3_bring_1 ?_
  refine lv_iload_n hx hb dX3_bring_4 rfl (lv_at hl 1 rfl) ?_
  refine zcall_i (wc := [cT (b 1) aN ((n : Nat) : Int) ((k : Nat) : Int) ((d : Nat) : Int) ((v : Nat) : Int)]) (wr := [cX x b ik rr hc, cR cI (aN 2) 72 g2, cR cI (aN 3) 12 g3, cR cI (b 4) 12 gt]) (rest := []) hE hP hD hS hA [1] [0, 2, 3, 4] [0, 4, 1, 2, 3] rfl rfl (by decide) (by decide) (by decide) (fun (u : Unit) => [cX x b ik rr hc, cT (b 1) aN ((n : Nat) : Int) ((k : Nat) : Int) ((d : Nat) : Int) ((v : Nat) : Int), cR cI (aN 2) 72 g2, cR cI (aN 3) 12 g3, cR cI (b 4) 12 gt]) (fun u => rfl) (fun hPc hDc => zrunVN (As := [.int (zI y1)]) (rest := []) (q0 := 0) (ci := 1) K k_X1_hasCard nk_X3_154 ⟨⟨rfl, rfl⟩, ⟨Nat.le_of_ble_eq_true rfl, Nat.le_of_ble_eq_true rfl⟩⟩ rfl rfl hPc hDc (c_X1_hasCard l D cI (b 1) aN n k d v y1 (by first | assumption | omega) (by first | assumption | omega) _) rfl hl.1 rfl (Nat.le_of_ble_eq_true rfl) dX3_bring_5 ⟨Nat.zero_le _, Nat.zero_le _⟩) (by decide) (fun z u H locs hpost hP hD hS => ?_)
  subst hpost
  have hP : va_P D cls [cX x b ik rr hc, cT (b 1) aN ((n : Nat) : Int) ((k : Nat) : Int) ((d : Nat) : Int) ((v : Nat) : Int), cR cI (aN 2) 72 g2, cR cI (aN 3) 12 g3, cR cI (b 4) 12 gt] H := hP
  have hD : va_D (va_A [cX x b ik rr hc, cT (b 1) aN ((n : Nat) : Int) ((k : Nat) : Int) ((d : Nat) : Int) ((v : Nat) : Int), cR cI (aN 2) 72 g2, cR cI (aN 3) 12 g3, cR cI (b 4) 12 gt] sz) [cX x b ik rr hc, cT (b 1) aN ((n : Nat) : Int) ((k : Nat) : Int) ((d : Nat) : Int) ((v : Nat) : Int), cR cI (aN 2) 72 g2, cR cI (aN 3) 12 g3, cR cI (b 4) 12 gt] := hD
  refine W.eq (g2 := F0 m 8 ls [.int (zI (b01 (0 ≤ y1 ∧ y1 < n)))]) rfl ?_
  refine z_if_eq (tgt := 22) hx hb (by have := b01_r (0 ≤ y1 ∧ y1 < n); omega) dX3_bring_8 (by decide) (fun c_8 => ?_) (fun c_8 => ?_)
  · have b_8 := b01_eq c_8
    refine lv_bipush (v := zI (-101)) hx hb dX3_bring_22 (by decide) ?_
    rw [← hQf]
    exact z_iret K hS (gt) ⟨(by first | (simp only [fBring, chk_f b_8]; done) | simp only [fBring, chk_t (show q1 < n by omega), chk_f b_19]), (by omega)⟩ hP hD dX3_bring_24
  · have b_8 := b01_ne c_8
    obtain ⟨q1, rfl⟩ : ∃ q : Nat, y1 = (q : Int) := ⟨y1.toNat, by omega⟩
    refine lv_aload_n hx hb dX3_bring_11 rfl (lv_at hl 0 rfl) ?_
    refine va_get (D := D) (ci := 3) (v := .ref (b 1)) (C := RX3) (T := TX3) (N := 10) hx hb hts inT_X3 hown hE.1 hP 0 rfl rfl 1 (by decide) (hts _ qf_X3_19) (fun _ h9 => h9) rfl dX3_bring_12 ?_
    refine lv_iload_n hx hb dX3_bring_15 rfl (lv_at hl 2 rfl) ?_
    refine zcall_i (wc := [cT (b 1) aN ((n : Nat) : Int) ((k : Nat) : Int) ((d : Nat) : Int) ((v : Nat) : Int)]) (wr := [cX x b ik rr hc, cR cI (aN 2) 72 g2, cR cI (aN 3) 12 g3, cR cI (b 4) 12 gt]) (rest := []) hE hP hD hS hA [1] [0, 2, 3, 4] [0, 4, 1, 2, 3] rfl rfl (by decide) (by decide) (by decide) (fun (u : Unit) => [cX x b ik rr hc, cT (b 1) aN ((n : Nat) : Int) ((k : Nat) : Int) ((d : Nat) : Int) ((v : Nat) : Int), cR cI (aN 2) 72 g2, cR cI (aN 3) 12 g3, cR cI (b 4) 12 gt]) (fun u => rfl) (fun hPc hDc => zrunVN (As := [.int (zI y2)]) (rest := []) (q0 := 0) (ci := 1) K k_X1_hasPlace nk_X3_108 ⟨⟨rfl, rfl⟩, ⟨Nat.le_of_ble_eq_true rfl, Nat.le_of_ble_eq_true rfl⟩⟩ rfl rfl hPc hDc (c_X1_hasPlace l D cI (b 1) aN n k d v y2 (by first | assumption | omega) (by first | assumption | omega) _) rfl hl.1 rfl (Nat.le_of_ble_eq_true rfl) dX3_bring_16 ⟨Nat.zero_le _, Nat.zero_le _⟩) (by decide) (fun z u H locs hpost hP hD hS => ?_)
    subst hpost
    have hP : va_P D cls [cX x b ik rr hc, cT (b 1) aN ((n : Nat) : Int) ((k : Nat) : Int) ((d : Nat) : Int) ((v : Nat) : Int), cR cI (aN 2) 72 g2, cR cI (aN 3) 12 g3, cR cI (b 4) 12 gt] H := hP
    have hD : va_D (va_A [cX x b ik rr hc, cT (b 1) aN ((n : Nat) : Int) ((k : Nat) : Int) ((d : Nat) : Int) ((v : Nat) : Int), cR cI (aN 2) 72 g2, cR cI (aN 3) 12 g3, cR cI (b 4) 12 gt] sz) [cX x b ik rr hc, cT (b 1) aN ((n : Nat) : Int) ((k : Nat) : Int) ((d : Nat) : Int) ((v : Nat) : Int), cR cI (aN 2) 72 g2, cR cI (aN 3) 12 g3, cR cI (b 4) 12 gt] := hD
    refine W.eq (g2 := F0 m 19 ls [.int (zI (b01 (0 ≤ y2 ∧ y2 < n)))]) rfl ?_
    refine z_if_ne (tgt := 25) hx hb (by have := b01_r (0 ≤ y2 ∧ y2 < n); omega) dX3_bring_19 (by decide) (fun c_19 => ?_) (fun c_19 => ?_)
    · have b_19 := b01_ne c_19
      obtain ⟨q2, rfl⟩ : ∃ q : Nat, y2 = (q : Int) := ⟨y2.toNat, by omega⟩
      refine lv_iload_n hx hb dX3_bring_25 rfl (lv_at hl 3 rfl) ?_
      refine z_if_lt (tgt := 34) hx hb (by omega) dX3_bring_26 (by decide) (fun c_26 => ?_) (fun c_26 => ?_)
      · refine lv_bipush (v := zI (-102)) hx hb dX3_bring_34 (by decide) ?_
        rw [← hQf]
        exact z_iret K hS (gt) ⟨(by simp only [fBring, chk_t (show q1 < n by omega), chk_t (show q2 < n by omega)]; rw [chk_f (by omega)]), (by omega)⟩ hP hD dX3_bring_36
      · refine lv_iload_n hx hb dX3_bring_29 rfl (lv_at hl 3 rfl) ?_
        refine lv_iconst (v := zI 1) hx hb dX3_bring_30 rfl ?_
        refine z_icmp_le (tgt := 37) hx hb (by omega) dX3_bring_31 (by decide) (fun c_31 => ?_) (fun c_31 => ?_)
        · obtain ⟨q3, rfl⟩ : ∃ q : Nat, y3 = (q : Int) := ⟨y3.toNat, by omega⟩
          have hpl : plo π n q1 < n := Nat.mod_lt _ (by omega)
          obtain ⟨f0, hf0⟩ : ∃ q, q = plo π n q1 := ⟨_, rfl⟩
          have hdf := dT_r (mus n κ ν) k q2 (n - 1) f0
          refine lv_aload_n hx hb dX3_bring_37 rfl (lv_at hl 0 rfl) ?_
          refine va_get (D := D) (ci := 3) (v := .ref (b 1)) (C := RX3) (T := TX3) (N := 10) hx hb hts inT_X3 hown hE.1 hP 0 rfl rfl 1 (by decide) (hts _ qf_X3_19) (fun _ h9 => h9) rfl dX3_bring_38 ?_
          refine lv_iload_n hx hb dX3_bring_41 rfl (lv_at hl 1 rfl) ?_
          refine zcall_i (wc := [cT (b 1) aN ((n : Nat) : Int) ((k : Nat) : Int) ((d : Nat) : Int) ((v : Nat) : Int), cR cI (aN 3) 12 g3]) (wr := [cX x b ik rr hc, cR cI (aN 2) 72 g2, cR cI (b 4) 12 gt]) (rest := []) hE hP hD hS hA [1, 3] [0, 2, 4] [0, 3, 1, 4, 2] rfl rfl (by decide) (by decide) (by decide) (fun (u : Unit) => [cX x b ik rr hc, cT (b 1) aN ((n : Nat) : Int) ((k : Nat) : Int) ((d : Nat) : Int) ((v : Nat) : Int), cR cI (aN 2) 72 g2, cR cI (aN 3) 12 g3, cR cI (b 4) 12 gt]) (fun u => rfl) (fun hPc hDc => zrunVN (As := [.int (zI ((q1 : Nat) : Int))]) (rest := []) (q0 := 0) (ci := 1) K k_X1_placeOf nk_X3_157 ⟨⟨rfl, rfl⟩, ⟨Nat.le_of_ble_eq_true rfl, Nat.le_of_ble_eq_true rfl⟩⟩ rfl rfl hPc hDc (c_X1_placeOf l D cI (b 1) aN n k d v g3 π q1 (by first | assumption | omega) (by first | assumption | omega) (by first | assumption | omega) (by first | assumption | omega) _) rfl hl.1 rfl (Nat.le_of_ble_eq_true rfl) dX3_bring_42 ⟨Nat.zero_le _, Nat.zero_le _⟩) (by decide) (fun z u H locs hpost hP hD hS => ?_)
          subst hpost
          have hP : va_P D cls [cX x b ik rr hc, cT (b 1) aN ((n : Nat) : Int) ((k : Nat) : Int) ((d : Nat) : Int) ((v : Nat) : Int), cR cI (aN 2) 72 g2, cR cI (aN 3) 12 g3, cR cI (b 4) 12 gt] H := hP
          have hD : va_D (va_A [cX x b ik rr hc, cT (b 1) aN ((n : Nat) : Int) ((k : Nat) : Int) ((d : Nat) : Int) ((v : Nat) : Int), cR cI (aN 2) 72 g2, cR cI (aN 3) 12 g3, cR cI (b 4) 12 gt] sz) [cX x b ik rr hc, cT (b 1) aN ((n : Nat) : Int) ((k : Nat) : Int) ((d : Nat) : Int) ((v : Nat) : Int), cR cI (aN 2) 72 g2, cR cI (aN 3) 12 g3, cR cI (b 4) 12 gt] := hD
          refine W.eq (g2 := F0 m 45 ls [.int (zI (((plo π n q1) : Nat) : Int))]) rfl ?_
          refine W.eq (g2 := F0 m 45 ls [.int (zI ((f0 : Nat) : Int))]) (by rw [show ((((plo π n q1) : Nat) : Int) : Int) = ((f0 : Nat) : Int) from by rw [hf0]]) ?_
          refine lv_istore (lv' := [(4, .int (zI ((f0 : Nat) : Int))), (0, .ref x), (1, .int (zI ((q1 : Nat) : Int))), (2, .int (zI ((q2 : Nat) : Int))), (3, .int (zI ((q3 : Nat) : Int)))]) hx hb dX3_bring_45 hl (by decide) rfl (fun ls hl => ?_)
          refine lv_aload_n hx hb dX3_bring_47 rfl (lv_at hl 1 rfl) ?_
          refine lv_iload_n hx hb dX3_bring_48 rfl (lv_at hl 3 rfl) ?_
          refine zcall_v (wc := [cX x b ik rr hc, cT (b 1) aN ((n : Nat) : Int) ((k : Nat) : Int) ((d : Nat) : Int) ((v : Nat) : Int), cR cI (aN 2) 72 g2, cR cI (b 4) 12 gt]) (wr := [cR cI (aN 3) 12 g3]) (rest := []) hE hP hD hS hA [0, 1, 2, 4] [3] [1, 2, 3, 0, 4] rfl rfl (by decide) (by decide) (by decide) (fun (u : (Nat → Int)) => [cX x b ik rr hc, cT (b 1) aN ((n : Nat) : Int) ((k : Nat) : Int) ((d : Nat) : Int) ((v : Nat) : Int), cR cI (aN 2) 72 g2, cR cI (aN 3) 12 g3, cR cI (b 4) 12 u]) (fun u => rfl) (fun hPc hDc => zrunV (As := [.int (zI ((q2 : Nat) : Int))]) (rest := []) (q0 := 0) (ci := 3) K k_X3_tellDistancesTo qm_X3_160 ⟨⟨rfl, rfl⟩, ⟨Nat.le_of_ble_eq_true rfl, Nat.le_of_ble_eq_true rfl⟩⟩ rfl rfl hPc hDc (c_X3_tellDistancesTo l D cI x b ik rr hc aN n k d v g2 (mus n κ ν) gt q2 (by first | assumption | omega) (by first | assumption | omega) (by first | assumption | omega) (by first | assumption | omega) (by first | assumption | omega) _) rfl hl.1 rfl (Nat.le_of_ble_eq_true rfl) dX3_bring_49 ⟨Nat.zero_le _, Nat.zero_le _⟩) (by decide) (fun u H locs hpost hP hD hS => ?_)
          obtain ⟨ot_1, hu⟩ : ∃ z, z = u := ⟨_, rfl⟩
          subst hu
          have hot_49 := hpost
          have hot_49 : ∀ j, j < n → ot_1 j = dT (mus n κ ν) k q2 (n - 1) j := hot_49
          have hP : va_P D cls [cX x b ik rr hc, cT (b 1) aN ((n : Nat) : Int) ((k : Nat) : Int) ((d : Nat) : Int) ((v : Nat) : Int), cR cI (aN 2) 72 g2, cR cI (aN 3) 12 g3, cR cI (b 4) 12 ot_1] H := hP
          have hD : va_D (va_A [cX x b ik rr hc, cT (b 1) aN ((n : Nat) : Int) ((k : Nat) : Int) ((d : Nat) : Int) ((v : Nat) : Int), cR cI (aN 2) 72 g2, cR cI (aN 3) 12 g3, cR cI (b 4) 12 gt] sz) [cX x b ik rr hc, cT (b 1) aN ((n : Nat) : Int) ((k : Nat) : Int) ((d : Nat) : Int) ((v : Nat) : Int), cR cI (aN 2) 72 g2, cR cI (aN 3) 12 g3, cR cI (b 4) 12 ot_1] := hD
          refine lv_iload_n hx hb dX3_bring_52 rfl (lv_at hl 4 rfl) ?_
          refine z_if_ne (tgt := 66) hx hb (by omega) dX3_bring_53 (by decide) (fun c_53 => ?_) (fun c_53 => ?_)
          · refine lv_aload_n hx hb dX3_bring_66 rfl (lv_at hl 1 rfl) ?_
            refine lv_iload hx hb dX3_bring_67 (lv_at hl 0 rfl) ?_
            have hfs : fsI (fun a => decide (ot_1 (mus n κ ν a f0) = ot_1 f0 - 1)) k = fsI (fun a => decide (dT (mus n κ ν) k q2 (n - 1) (mus n κ ν a f0) = dT (mus n κ ν) k q2 (n - 1) f0 - 1)) k := fsI_cong (fun a ha => by rw [hot_49 _ (hμ a f0 ha (by omega)), hot_49 f0 (by omega)])
            have hf9 := fsI_r (fun a => decide (dT (mus n κ ν) k q2 (n - 1) (mus n κ ν a f0) = dT (mus n κ ν) k q2 (n - 1) f0 - 1)) hk
            refine zcall_i (wc := [cX x b ik rr hc, cT (b 1) aN ((n : Nat) : Int) ((k : Nat) : Int) ((d : Nat) : Int) ((v : Nat) : Int), cR cI (aN 2) 72 g2, cR cI (b 4) 12 ot_1]) (wr := [cR cI (aN 3) 12 g3]) (rest := []) hE hP hD hS hA [0, 1, 2, 4] [3] [1, 2, 3, 0, 4] rfl rfl (by decide) (by decide) (by decide) (fun (u : Unit) => [cX x b ik rr hc, cT (b 1) aN ((n : Nat) : Int) ((k : Nat) : Int) ((d : Nat) : Int) ((v : Nat) : Int), cR cI (aN 2) 72 g2, cR cI (aN 3) 12 g3, cR cI (b 4) 12 ot_1]) (fun u => rfl) (fun hPc hDc => zrunV (As := [.int (zI ((f0 : Nat) : Int))]) (rest := []) (q0 := 0) (ci := 3) K k_X3_firstStepNearer qm_X3_163 ⟨⟨rfl, rfl⟩, ⟨Nat.le_of_ble_eq_true rfl, Nat.le_of_ble_eq_true rfl⟩⟩ rfl rfl hPc hDc (c_X3_firstStepNearer l D cI x b ik rr hc aN n k d v g2 (mus n κ ν) ot_1 f0 (by first | assumption | omega) (by first | assumption | omega) (by first | assumption | omega) (by first | assumption | omega) (by first | assumption | omega) (fun j hj => by rw [hot_49 j hj]; have := dT_r (mus n κ ν) k q2 (n - 1) j; omega) _) rfl hl.1 rfl (Nat.le_of_ble_eq_true rfl) dX3_bring_69 ⟨Nat.zero_le _, Nat.zero_le _⟩) (by decide) (fun z u H locs hpost hP hD hS => ?_)
            subst hpost
            have hP : va_P D cls [cX x b ik rr hc, cT (b 1) aN ((n : Nat) : Int) ((k : Nat) : Int) ((d : Nat) : Int) ((v : Nat) : Int), cR cI (aN 2) 72 g2, cR cI (aN 3) 12 g3, cR cI (b 4) 12 ot_1] H := hP
            have hD : va_D (va_A [cX x b ik rr hc, cT (b 1) aN ((n : Nat) : Int) ((k : Nat) : Int) ((d : Nat) : Int) ((v : Nat) : Int), cR cI (aN 2) 72 g2, cR cI (aN 3) 12 g3, cR cI (b 4) 12 gt] sz) [cX x b ik rr hc, cT (b 1) aN ((n : Nat) : Int) ((k : Nat) : Int) ((d : Nat) : Int) ((v : Nat) : Int), cR cI (aN 2) 72 g2, cR cI (aN 3) 12 g3, cR cI (b 4) 12 ot_1] := hD
            refine W.eq (g2 := F0 m 72 ls [.int (zI (if 0 < ot_1 f0 then fsI (fun a => decide (ot_1 ((mus n κ ν) a f0) = ot_1 f0 - 1)) k else -1))]) rfl ?_
            rw [← hQf]
            exact z_iret K hS (ot_1) ⟨(by simp only [fBring, chk_t (show q1 < n by omega), chk_t (show q2 < n by omega), chk_t (show q3 < 2 by omega), fBri, ← hf0]; first | (rw [if_pos (by omega)]; done) | (rw [if_neg (show ¬ q3 = 0 by omega), hfs, hot_49 f0 (by omega)])), (by first | omega | (rw [hfs]; split <;> omega))⟩ hP hD dX3_bring_72
          · refine lv_aload_n hx hb dX3_bring_56 rfl (lv_at hl 1 rfl) ?_
            refine va_get (D := D) (ci := 3) (v := .ref (b 4)) (C := RX3) (T := TX3) (N := 10) hx hb hts inT_X3 hown hE.1 hP 0 rfl rfl 7 (by decide) (hts _ qf_X3_33) (fun _ h9 => h9) rfl dX3_bring_57 ?_
            refine lv_iload hx hb dX3_bring_60 (lv_at hl 0 rfl) ?_
            refine z_iald hx hb hE hP 4 rfl f0 (by omega) (by omega) (by first | decide | omega) (dT (mus n κ ν) k q2 (n - 1) f0) (hot_49 f0 (by omega)) dX3_bring_62 ?_
            refine lv_goto (tgt := 72) hx hb dX3_bring_63 (by decide) ?_
            rw [← hQf]
            exact z_iret K hS (ot_1) ⟨(by simp only [fBring, chk_t (show q1 < n by omega), chk_t (show q2 < n by omega), chk_t (show q3 < 2 by omega), fBri, ← hf0]; first | (rw [if_pos (by omega)]; done) | (rw [if_neg (show ¬ q3 = 0 by omega), hfs, hot_49 f0 (by omega)])), (by first | omega | (rw [hfs]; split <;> omega))⟩ hP hD dX3_bring_72
        · refine lv_bipush (v := zI (-102)) hx hb dX3_bring_34 (by decide) ?_
          rw [← hQf]
          exact z_iret K hS (gt) ⟨(by simp only [fBring, chk_t (show q1 < n by omega), chk_t (show q2 < n by omega)]; rw [chk_f (by omega)]), (by omega)⟩ hP hD dX3_bring_36
    · have b_19 := b01_eq c_19
      refine lv_bipush (v := zI (-101)) hx hb dX3_bring_22 (by decide) ?_
      rw [← hQf]
      exact z_iret K hS (gt) ⟨(by first | (simp only [fBring, chk_f b_8]; done) | simp only [fBring, chk_t (show q1 < n by omega), chk_f b_19]), (by omega)⟩ hP hD dX3_bring_24
