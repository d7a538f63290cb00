set_option maxHeartbeats 4000000 in
set_option maxRecDepth 100000 in
theorem c_X3_letter (l : Launch) (D : va_G) (cI : ClassId) (x : Nat) (b : Nat → Nat) (ik rr hc : Int) (lp pl : Nat) (gl : Nat → Int) (lt : Nat → Nat) (y1 : Int) (hL : LI pl gl lt) (hy1 : -2147483648 ≤ y1 ∧ y1 < 2147483648) : zMi l yX3_letter cX3_letter 2 (some .int) ({ frames := 1, cells := 0, slots := 0, locals := 21 }) D cI [.ref x, .int (zI y1)] [cX x b ik rr hc, cP (b 0) lp ((pl : Nat) : Int), cR cI lp 22 gl] (fun (z : Int) (u : (Nat) × (Nat → Int)) => (z = (fLet pl y1)) ∧ (u.1 = lePl pl y1) ∧ (LI u.1 u.2 (leLt pl lt y1))) (fun (u : (Nat) × (Nat → Int)) => [cX x b ik rr hc, cP (b 0) lp ((u.1 : Nat) : Int), cR cI lp 22 u.2]) := by
  intro sz
  refine zstart rfl (by decide) (Nat.le_of_ble_eq_true rfl) ?_
  intro p e s m below meth c ls K hnm hsz hP hD hS hl
  generalize hargs : ([.ref x, .int (zI y1)] : List Value).toArray = args at K ⊢
  generalize hQf : MQ below _ args s _ _ _ = Qf
  have K : zK p s m args meth c cX3_letter 2 RX3 (some .int) D cI := K
  obtain ⟨hx, hb, hml, hown, hts, hE, -, -⟩ := id K
  have hA := zhA (ws0 := [cX x b ik rr hc, cP (b 0) lp ((pl : Nat) : Int), cR cI lp 22 gl]) hsz
  have hl : lv_has ls 2 [(0, .ref x), (1, .int (zI y1))] := hl
  have hpl := hL.1
  refine lv_iload_n hx hb dX3_letter_0 rfl (lv_at hl 1 rfl) ?_
  refine lv_iconst (v := zI 1) hx hb dX3_letter_1 rfl ?_
  refine z_icmp_lt (tgt := 11) hx hb (by omega) dX3_letter_2 (by decide) (fun c_2 => ?_) (fun c_2 => ?_)
  · refine lv_bipush (v := zI (-102)) hx hb dX3_letter_11 (by decide) ?_
    rw [← hQf]
    exact z_iret K hS (pl, gl) ⟨(by rw [fLet, if_neg (by omega)]), (by (try dsimp only); rw [lePl, if_neg (by omega)]), (by (try dsimp only); rw [leLt, if_neg (by omega)]; exact hL)⟩ hP hD dX3_letter_13
  · refine lv_iload_n hx hb dX3_letter_5 rfl (lv_at hl 1 rfl) ?_
    refine lv_bipush (v := zI 126) hx hb dX3_letter_6 (by decide) ?_
    refine z_icmp_le (tgt := 14) hx hb (by omega) dX3_letter_8 (by decide) (fun c_8 => ?_) (fun c_8 => ?_)
    · refine lv_aload_n hx hb dX3_letter_14 rfl (lv_at hl 0 rfl) ?_
      refine va_get (D := D) (ci := 3) (v := .ref (b 0)) (C := RX3) (T := TX3) (N := 10) hx hb hts inT_X3 hown hE.1 hP 0 rfl rfl 0 (by decide) (hts _ qf_X3_10) (fun _ h9 => h9) rfl dX3_letter_15 ?_
      refine va_getN (D := D) (ci := 0) (v := .int (zI ((pl : Nat) : Int))) (C := RX0) (T := TX0) (N := 2) hx hb hts inT_X0 hown hE.1 hP 1 rfl rfl 1 (by decide) (va_Nw.use rfl (hE.2 _ nf_X3_43 rfl)) (fun _ h9 => h9) rfl dX3_letter_18 ?_
      refine lv_bipush (v := zI 22) hx hb dX3_letter_21 (by decide) ?_
      refine z_icmp_lt (tgt := 29) hx hb (by omega) dX3_letter_23 (by decide) (fun c_23 => ?_) (fun c_23 => ?_)
      · obtain ⟨q1, rfl⟩ : ∃ q : Nat, y1 = (q : Int) := ⟨y1.toNat, by omega⟩
        refine lv_aload_n hx hb dX3_letter_29 rfl (lv_at hl 0 rfl) ?_
        refine va_get (D := D) (ci := 3) (v := .ref (b 0)) (C := RX3) (T := TX3) (N := 10) hx hb hts inT_X3 hown hE.1 hP 0 rfl rfl 0 (by decide) (hts _ qf_X3_10) (fun _ h9 => h9) rfl dX3_letter_30 ?_
        refine lv_iload_n hx hb dX3_letter_33 rfl (lv_at hl 1 rfl) ?_
        refine zcall_v (wc := [cP (b 0) lp ((pl : Nat) : Int), cR cI lp 22 gl]) (wr := [cX x b ik rr hc]) (rest := []) hE hP hD hS hA [1, 2] [0] [0, 1, 2] rfl rfl (by decide) (by decide) (by decide) (fun (u : Unit) => [cX x b ik rr hc, cP (b 0) lp (((pl + 1) : Nat) : Int), cR cI lp 22 (zup gl pl ((q1 : Nat) : Int))]) (fun u => rfl) (fun hPc hDc => zrunVN (As := [.int (zI ((q1 : Nat) : Int))]) (rest := []) (q0 := 0) (ci := 0) K k_X0_append nk_X3_47 ⟨⟨rfl, rfl⟩, ⟨Nat.le_of_ble_eq_true rfl, Nat.le_of_ble_eq_true rfl⟩⟩ rfl rfl hPc hDc (c_X0_append l D cI (b 0) lp pl gl ((q1 : Nat) : Int) (by first | assumption | omega) _) rfl hl.1 rfl (Nat.le_of_ble_eq_true rfl) dX3_letter_34 ⟨Nat.zero_le _, Nat.zero_le _⟩) (by decide) (fun u H locs hpost hP hD hS => ?_)
        have hP : va_P D cls [cX x b ik rr hc, cP (b 0) lp (((pl + 1) : Nat) : Int), cR cI lp 22 (zup gl pl ((q1 : Nat) : Int))] H := hP
        have hD : va_D (va_A [cX x b ik rr hc, cP (b 0) lp ((pl : Nat) : Int), cR cI lp 22 gl] sz) [cX x b ik rr hc, cP (b 0) lp (((pl + 1) : Nat) : Int), cR cI lp 22 (zup gl pl ((q1 : Nat) : Int))] := hD
        refine lv_aload_n hx hb dX3_letter_37 rfl (lv_at hl 0 rfl) ?_
        refine va_get (D := D) (ci := 3) (v := .ref (b 0)) (C := RX3) (T := TX3) (N := 10) hx hb hts inT_X3 hown hE.1 hP 0 rfl rfl 0 (by decide) (hts _ qf_X3_10) (fun _ h9 => h9) rfl dX3_letter_38 ?_
        refine va_getN (D := D) (ci := 0) (v := .int (zI (((pl + 1) : Nat) : Int))) (C := RX0) (T := TX0) (N := 2) hx hb hts inT_X0 hown hE.1 hP 1 rfl rfl 1 (by decide) (va_Nw.use rfl (hE.2 _ nf_X3_43 rfl)) (fun _ h9 => h9) rfl dX3_letter_41 ?_
        rw [← hQf]
        exact z_iret K hS ((pl + 1), (zup gl pl ((q1 : Nat) : Int))) ⟨(by rw [fLet, if_pos (by omega), if_neg (by omega)]; omega), (by (try dsimp only); rw [lePl, if_pos (by omega), if_neg (by omega)]), (by (try dsimp only); rw [leLt, if_pos (by omega), if_neg (by omega), Int.toNat_natCast]; exact LI_add hL (by omega) (by omega))⟩ hP hD dX3_letter_44
      · refine lv_bipush (v := zI (-104)) hx hb dX3_letter_26 (by decide) ?_
        rw [← hQf]
        exact z_iret K hS (pl, gl) ⟨(by rw [fLet, if_pos (by omega), if_pos (by omega)]), (by (try dsimp only); rw [lePl, if_pos (by omega), if_pos (by omega)]), (by (try dsimp only); rw [leLt, if_pos (by omega), if_pos (by omega)]; exact hL)⟩ hP hD dX3_letter_28
    · refine lv_bipush (v := zI (-102)) hx hb dX3_letter_11 (by decide) ?_
      rw [← hQf]
      exact z_iret K hS (pl, gl) ⟨(by rw [fLet, if_neg (by omega)]), (by (try dsimp only); rw [lePl, if_neg (by omega)]), (by (try dsimp only); rw [leLt, if_neg (by omega)]; exact hL)⟩ hP hD dX3_letter_13
set_option maxHeartbeats 4000000 in
set_option maxRecDepth 100000 in
theorem c_X3_blank (l : Launch) (D : va_G) (cI : ClassId) (x : Nat) (b : Nat → Nat) (ik rr hc : Int) (lp : Nat) (pl : Int)  : zMi l yX3_blank cX3_blank 1 (some .int) ({ frames := 1, cells := 0, slots := 0, locals := 21 }) D cI [.ref x] [cX x b ik rr hc, cP (b 0) lp pl] (fun (z : Int) (u : Unit) => z = pl) (fun (u : Unit) => [cX x b ik rr hc, cP (b 0) lp 0]) := by
  intro sz
  refine zstart rfl (by decide) (Nat.le_of_ble_eq_true rfl) ?_
  intro p e s m below meth c ls K hnm hsz hP hD hS hl
  generalize hargs : ([.ref x] : List Value).toArray = args at K ⊢
  generalize hQf : MQ below _ args s _ _ _ = Qf
  have K : zK p s m args meth c cX3_blank 1 RX3 (some .int) D cI := K
  obtain ⟨hx, hb, hml, hown, hts, hE, -, -⟩ := id K
  have hA := zhA (ws0 := [cX x b ik rr hc, cP (b 0) lp pl]) hsz
  have hl : lv_has ls 1 [(0, .ref x)] := hl
  refine lv_aload_n hx hb dX3_blank_0 rfl (lv_at hl 0 rfl) ?_
  refine va_get (D := D) (ci := 3) (v := .ref (b 0)) (C := RX3) (T := TX3) (N := 10) hx hb hts inT_X3 hown hE.1 hP 0 rfl rfl 0 (by decide) (hts _ qf_X3_10) (fun _ h9 => h9) rfl dX3_blank_1 ?_
  refine zcall_i (wc := [cP (b 0) lp pl]) (wr := [cX x b ik rr hc]) (rest := []) hE hP hD hS hA [1] [0] [0, 1] rfl rfl (by decide) (by decide) (by decide) (fun (u : Unit) => [cX x b ik rr hc, cP (b 0) lp 0]) (fun u => rfl) (fun hPc hDc => zrunVN (As := []) (rest := []) (q0 := 0) (ci := 0) K k_X0_clear nk_X3_51 ⟨⟨rfl, rfl⟩, ⟨Nat.le_of_ble_eq_true rfl, Nat.le_of_ble_eq_true rfl⟩⟩ rfl rfl hPc hDc (c_X0_clear l D cI (b 0) lp pl _) rfl hl.1 rfl (Nat.le_of_ble_eq_true rfl) dX3_blank_4 ⟨Nat.zero_le _, Nat.zero_le _⟩) (by decide) (fun z u H locs hpost hP hD hS => ?_)
  rw [hpost]
  have hP : va_P D cls [cX x b ik rr hc, cP (b 0) lp 0] H := hP
  have hD : va_D (va_A [cX x b ik rr hc, cP (b 0) lp pl] sz) [cX x b ik rr hc, cP (b 0) lp 0] := hD
  refine W.eq (g2 := F0 m 7 ls [.int (zI pl)]) rfl ?_
  rw [← hQf]
  exact z_iret K hS () (by first | rfl | omega | (split <;> omega)) hP hD dX3_blank_7
set_option maxHeartbeats 4000000 in
set_option maxRecDepth 100000 in
theorem c_X3_exchange (l : Launch) (D : va_G) (cI : ClassId) (x : Nat) (b : Nat → Nat) (ik rr hc : Int) (aN : Nat → Nat) (n k d v : Nat) (g0 g1 g2 g3 g4 g5 g6 : Nat → Int) (κ ν π ss sf st : Nat → Nat) (y1 y2 : Int) (hT : TI n k d v g0 g1 g2 g3 g4 g5 g6 κ ν π ss sf st) (hy1 : -2147483648 ≤ y1 ∧ y1 < 2147483648) (hy2 : -2147483648 ≤ y2 ∧ y2 < 2147483648) : zMi l yX3_exchange cX3_exchange 4 (some .int) ({ frames := 1, cells := 0, slots := 0, locals := 21 }) D cI [.ref x, .int (zI y1), .int (zI y2)] [cX x b ik rr hc, cT (b 1) aN ((n : Nat) : Int) ((k : Nat) : Int) ((d : Nat) : Int) ((v : Nat) : Int), cR cI (aN 3) 12 g3] (fun (z : Int) (u : (Nat → Int)) => (z = (fExch n π y1 y2)) ∧ (TI n k d v g0 g1 g2 u g4 g5 g6 κ ν (exP n π y1 y2) ss sf st)) (fun (u : (Nat → Int)) => [cX x b ik rr hc, cT (b 1) aN ((n : Nat) : Int) ((k : Nat) : Int) ((d : Nat) : Int) ((v : Nat) : Int), cR cI (aN 3) 12 u]) := by
  intro sz
  refine zstart rfl (by decide) (Nat.le_of_ble_eq_true rfl) ?_
  intro p e s m below meth c ls K hnm hsz hP hD hS hl
  generalize hargs : ([.ref x, .int (zI y1), .int (zI y2)] : List Value).toArray = args at K ⊢
  generalize hQf : MQ below _ args s _ _ _ = Qf
  have K : zK p s m args meth c cX3_exchange 4 RX3 (some .int) D cI := K
  obtain ⟨hx, hb, hml, hown, hts, hE, -, -⟩ := id K
  have hA := zhA (ws0 := [cX x b ik rr hc, cT (b 1) aN ((n : Nat) : Int) ((k : Nat) : Int) ((d : Nat) : Int) ((v : Nat) : Int), cR cI (aN 3) 12 g3]) hsz
  have hl : lv_has ls 4 [(0, .ref x), (1, .int (zI y1)), (2, .int (zI y2))] := hl
  obtain ⟨hnk, hd, hv, hg0, hκ, hg1, hν, hg2, hg3, hπ, hπi, hg4, hss, hg5, hsf, hg6, hst⟩ := id hT
  have hn : n ≤ 12 := by omega
  have hk : k ≤ 6 := by omega
  have hμ := mus_lt (k := k) hn hκ hν
  have hμi := mus_inj (k := k) hn hκ hν
  have hρ : ∀ j, j < n → rdc (mus n κ ν) k j < n := fun j hj => rdc_lt hμ (Nat.le_refl k) hj
  have hρi : inj (rdc (mus n κ ν) k) n := rdc_inj hμ hμi (Nat.le_refl k)
  refine lv_aload_n hx hb dX3_exchange_0 rfl (lv_at hl 0 rfl) ?_
  refine va_get (D := D) (ci := 3) (v := .ref (b 1)) (C := RX3) (T := TX3) (N := 10) hx hb hts inT_X3 hown hE.1 hP 0 rfl rfl 1 (by decide) (hts _ qf_X3_19) (fun _ h9 => h9) rfl dX3_exchange_1 ?_
  refine lv_iload_n hx hb dX3_exchange_4 rfl (lv_at hl 1 rfl) ?_
  refine zcall_i (wc := [cT (b 1) aN ((n : Nat) : Int) ((k : Nat) : Int) ((d : Nat) : Int) ((v : Nat) : Int)]) (wr := [cX x b ik rr hc, cR cI (aN 3) 12 g3]) (rest := []) hE hP hD hS hA [1] [0, 2] [0, 2, 1] rfl rfl (by decide) (by decide) (by decide) (fun (u : Unit) => [cX x b ik rr hc, cT (b 1) aN ((n : Nat) : Int) ((k : Nat) : Int) ((d : Nat) : Int) ((v : Nat) : Int), cR cI (aN 3) 12 g3]) (fun u => rfl) (fun hPc hDc => zrunVN (As := [.int (zI y1)]) (rest := []) (q0 := 0) (ci := 1) K k_X1_hasPlace nk_X3_108 ⟨⟨rfl, rfl⟩, ⟨Nat.le_of_ble_eq_true rfl, Nat.le_of_ble_eq_true rfl⟩⟩ rfl rfl hPc hDc (c_X1_hasPlace l D cI (b 1) aN n k d v y1 (by first | assumption | omega) (by first | assumption | omega) _) rfl hl.1 rfl (Nat.le_of_ble_eq_true rfl) dX3_exchange_5 ⟨Nat.zero_le _, Nat.zero_le _⟩) (by decide) (fun z u H locs hpost hP hD hS => ?_)
  subst hpost
  have hP : va_P D cls [cX x b ik rr hc, cT (b 1) aN ((n : Nat) : Int) ((k : Nat) : Int) ((d : Nat) : Int) ((v : Nat) : Int), cR cI (aN 3) 12 g3] H := hP
  have hD : va_D (va_A [cX x b ik rr hc, cT (b 1) aN ((n : Nat) : Int) ((k : Nat) : Int) ((d : Nat) : Int) ((v : Nat) : Int), cR cI (aN 3) 12 g3] sz) [cX x b ik rr hc, cT (b 1) aN ((n : Nat) : Int) ((k : Nat) : Int) ((d : Nat) : Int) ((v : Nat) : Int), cR cI (aN 3) 12 g3] := hD
  refine W.eq (g2 := F0 m 8 ls [.int (zI (b01 (0 ≤ y1 ∧ y1 < n)))]) rfl ?_
  refine z_if_eq (tgt := 27) hx hb (by have := b01_r (0 ≤ y1 ∧ y1 < n); omega) dX3_exchange_8 (by decide) (fun c_8 => ?_) (fun c_8 => ?_)
  · have b_8 := b01_eq c_8
    refine lv_bipush (v := zI (-101)) hx hb dX3_exchange_27 (by decide) ?_
    rw [← hQf]
    exact z_iret K hS (g3) ⟨(by first | (simp only [fExch, chk_f b_8]; done) | (simp only [fExch, chk_t (show q1 < n by omega), chk_f b_19]; done) | (simp only [fExch, chk_t (show q1 < n by omega), chk_t (show q2 < n by omega)]; rw [if_pos (by omega)])), (by first | (simp only [exP, chk_f b_8]; exact hT) | (simp only [exP, chk_t (show q1 < n by omega), chk_f b_19]; exact hT) | (simp only [exP, chk_t (show q1 < n by omega), chk_t (show q2 < n by omega)]; rw [if_pos (by omega)]; exact hT))⟩ hP hD dX3_exchange_29
  · have b_8 := b01_ne c_8
    obtain ⟨q1, rfl⟩ : ∃ q : Nat, y1 = (q : Int) := ⟨y1.toNat, by omega⟩
    refine lv_aload_n hx hb dX3_exchange_11 rfl (lv_at hl 0 rfl) ?_
    refine va_get (D := D) (ci := 3) (v := .ref (b 1)) (C := RX3) (T := TX3) (N := 10) hx hb hts inT_X3 hown hE.1 hP 0 rfl rfl 1 (by decide) (hts _ qf_X3_19) (fun _ h9 => h9) rfl dX3_exchange_12 ?_
    refine lv_iload_n hx hb dX3_exchange_15 rfl (lv_at hl 2 rfl) ?_
    refine zcall_i (wc := [cT (b 1) aN ((n : Nat) : Int) ((k : Nat) : Int) ((d : Nat) : Int) ((v : Nat) : Int)]) (wr := [cX x b ik rr hc, cR cI (aN 3) 12 g3]) (rest := []) hE hP hD hS hA [1] [0, 2] [0, 2, 1] rfl rfl (by decide) (by decide) (by decide) (fun (u : Unit) => [cX x b ik rr hc, cT (b 1) aN ((n : Nat) : Int) ((k : Nat) : Int) ((d : Nat) : Int) ((v : Nat) : Int), cR cI (aN 3) 12 g3]) (fun u => rfl) (fun hPc hDc => zrunVN (As := [.int (zI y2)]) (rest := []) (q0 := 0) (ci := 1) K k_X1_hasPlace nk_X3_108 ⟨⟨rfl, rfl⟩, ⟨Nat.le_of_ble_eq_true rfl, Nat.le_of_ble_eq_true rfl⟩⟩ rfl rfl hPc hDc (c_X1_hasPlace l D cI (b 1) aN n k d v y2 (by first | assumption | omega) (by first | assumption | omega) _) rfl hl.1 rfl (Nat.le_of_ble_eq_true rfl) dX3_exchange_16 ⟨Nat.zero_le _, Nat.zero_le _⟩) (by decide) (fun z u H locs hpost hP hD hS => ?_)
    subst hpost
    have hP : va_P D cls [cX x b ik rr hc, cT (b 1) aN ((n : Nat) : Int) ((k : Nat) : Int) ((d : Nat) : Int) ((v : Nat) : Int), cR cI (aN 3) 12 g3] H := hP
    have hD : va_D (va_A [cX x b ik rr hc, cT (b 1) aN ((n : Nat) : Int) ((k : Nat) : Int) ((d : Nat) : Int) ((v : Nat) : Int), cR cI (aN 3) 12 g3] sz) [cX x b ik rr hc, cT (b 1) aN ((n : Nat) : Int) ((k : Nat) : Int) ((d : Nat) : Int) ((v : Nat) : Int), cR cI (aN 3) 12 g3] := hD
    refine W.eq (g2 := F0 m 19 ls [.int (zI (b01 (0 ≤ y2 ∧ y2 < n)))]) rfl ?_
    refine z_if_eq (tgt := 27) hx hb (by have := b01_r (0 ≤ y2 ∧ y2 < n); omega) dX3_exchange_19 (by decide) (fun c_19 => ?_) (fun c_19 => ?_)
    · have b_19 := b01_eq c_19
      refine lv_bipush (v := zI (-101)) hx hb dX3_exchange_27 (by decide) ?_
      rw [← hQf]
      exact z_iret K hS (g3) ⟨(by first | (simp only [fExch, chk_f b_8]; done) | (simp only [fExch, chk_t (show q1 < n by omega), chk_f b_19]; done) | (simp only [fExch, chk_t (show q1 < n by omega), chk_t (show q2 < n by omega)]; rw [if_pos (by omega)])), (by first | (simp only [exP, chk_f b_8]; exact hT) | (simp only [exP, chk_t (show q1 < n by omega), chk_f b_19]; exact hT) | (simp only [exP, chk_t (show q1 < n by omega), chk_t (show q2 < n by omega)]; rw [if_pos (by omega)]; exact hT))⟩ hP hD dX3_exchange_29
    · have b_19 := b01_ne c_19
      obtain ⟨q2, rfl⟩ : ∃ q : Nat, y2 = (q : Int) := ⟨y2.toNat, by omega⟩
      refine lv_iload_n hx hb dX3_exchange_22 rfl (lv_at hl 1 rfl) ?_
      refine lv_iload_n hx hb dX3_exchange_23 rfl (lv_at hl 2 rfl) ?_
      refine z_icmp_ne (tgt := 30) hx hb (by omega) dX3_exchange_24 (by decide) (fun c_24 => ?_) (fun c_24 => ?_)
      · refine lv_aload_n hx hb dX3_exchange_30 rfl (lv_at hl 0 rfl) ?_
        refine va_get (D := D) (ci := 3) (v := .ref (b 1)) (C := RX3) (T := TX3) (N := 10) hx hb hts inT_X3 hown hE.1 hP 0 rfl rfl 1 (by decide) (hts _ qf_X3_19) (fun _ h9 => h9) rfl dX3_exchange_31 ?_
        refine va_getN (D := D) (ci := 1) (v := .ref (aN 3)) (C := RX1) (T := TX1) (N := 11) hx hb hts inT_X1 hown hE.1 hP 1 rfl rfl 7 (by decide) (va_Nw.use rfl (hE.2 _ nf_X3_111 rfl)) (fun _ h9 => h9) rfl dX3_exchange_34 ?_
        refine lv_iload_n hx hb dX3_exchange_37 rfl (lv_at hl 1 rfl) ?_
        refine z_iald hx hb hE hP 2 rfl q1 (by omega) (by omega) (by first | decide | omega) ((π q1 : Nat) : Int) (hg3 q1 (by omega)) dX3_exchange_38 ?_
        refine lv_istore_n (lv' := [(3, .int (zI ((π q1 : Nat) : Int))), (0, .ref x), (1, .int (zI ((q1 : Nat) : Int))), (2, .int (zI ((q2 : Nat) : Int)))]) hx hb dX3_exchange_39 rfl hl (by decide) rfl (fun ls hl => ?_)
        refine lv_aload_n hx hb dX3_exchange_40 rfl (lv_at hl 1 rfl) ?_
        refine va_get (D := D) (ci := 3) (v := .ref (b 1)) (C := RX3) (T := TX3) (N := 10) hx hb hts inT_X3 hown hE.1 hP 0 rfl rfl 1 (by decide) (hts _ qf_X3_19) (fun _ h9 => h9) rfl dX3_exchange_41 ?_
        refine va_getN (D := D) (ci := 1) (v := .ref (aN 3)) (C := RX1) (T := TX1) (N := 11) hx hb hts inT_X1 hown hE.1 hP 1 rfl rfl 7 (by decide) (va_Nw.use rfl (hE.2 _ nf_X3_111 rfl)) (fun _ h9 => h9) rfl dX3_exchange_44 ?_
        refine lv_iload_n hx hb dX3_exchange_47 rfl (lv_at hl 2 rfl) ?_
        refine lv_aload_n hx hb dX3_exchange_48 rfl (lv_at hl 1 rfl) ?_
        refine va_get (D := D) (ci := 3) (v := .ref (b 1)) (C := RX3) (T := TX3) (N := 10) hx hb hts inT_X3 hown hE.1 hP 0 rfl rfl 1 (by decide) (hts _ qf_X3_19) (fun _ h9 => h9) rfl dX3_exchange_49 ?_
        refine va_getN (D := D) (ci := 1) (v := .ref (aN 3)) (C := RX1) (T := TX1) (N := 11) hx hb hts inT_X1 hown hE.1 hP 1 rfl rfl 7 (by decide) (va_Nw.use rfl (hE.2 _ nf_X3_111 rfl)) (fun _ h9 => h9) rfl dX3_exchange_52 ?_
        refine lv_iload_n hx hb dX3_exchange_55 rfl (lv_at hl 3 rfl) ?_
        refine z_iald hx hb hE hP 2 rfl q2 (by omega) (by omega) (by first | decide | omega) ((π q2 : Nat) : Int) (hg3 q2 (by omega)) dX3_exchange_56 ?_
        refine z_iast hx hb hE hP hD hS 2 rfl q1 (by omega) (by omega) (by first | decide | omega) (zup g3 q1 ((π q2 : Nat) : Int)) rfl dX3_exchange_57 (fun H locs hP hD hS => ?_)
        have hP : va_P D cls [cX x b ik rr hc, cT (b 1) aN ((n : Nat) : Int) ((k : Nat) : Int) ((d : Nat) : Int) ((v : Nat) : Int), cR cI (aN 3) 12 (zup g3 q1 ((π q2 : Nat) : Int))] H := hP
        have hD : va_D (va_A [cX x b ik rr hc, cT (b 1) aN ((n : Nat) : Int) ((k : Nat) : Int) ((d : Nat) : Int) ((v : Nat) : Int), cR cI (aN 3) 12 g3] sz) [cX x b ik rr hc, cT (b 1) aN ((n : Nat) : Int) ((k : Nat) : Int) ((d : Nat) : Int) ((v : Nat) : Int), cR cI (aN 3) 12 (zup g3 q1 ((π q2 : Nat) : Int))] := hD
        refine lv_aload_n hx hb dX3_exchange_58 rfl (lv_at hl 1 rfl) ?_
        refine va_get (D := D) (ci := 3) (v := .ref (b 1)) (C := RX3) (T := TX3) (N := 10) hx hb hts inT_X3 hown hE.1 hP 0 rfl rfl 1 (by decide) (hts _ qf_X3_19) (fun _ h9 => h9) rfl dX3_exchange_59 ?_
        refine va_getN (D := D) (ci := 1) (v := .ref (aN 3)) (C := RX1) (T := TX1) (N := 11) hx hb hts inT_X1 hown hE.1 hP 1 rfl rfl 7 (by decide) (va_Nw.use rfl (hE.2 _ nf_X3_111 rfl)) (fun _ h9 => h9) rfl dX3_exchange_62 ?_
        refine lv_iload_n hx hb dX3_exchange_65 rfl (lv_at hl 3 rfl) ?_
        refine lv_iload_n hx hb dX3_exchange_66 rfl (lv_at hl 0 rfl) ?_
        refine z_iast hx hb hE hP hD hS 2 rfl q2 (by omega) (by omega) (by first | decide | omega) (zup (zup g3 q1 ((π q2 : Nat) : Int)) q2 ((π q1 : Nat) : Int)) rfl dX3_exchange_67 (fun H locs hP hD hS => ?_)
        have hP : va_P D cls [cX x b ik rr hc, cT (b 1) aN ((n : Nat) : Int) ((k : Nat) : Int) ((d : Nat) : Int) ((v : Nat) : Int), cR cI (aN 3) 12 (zup (zup g3 q1 ((π q2 : Nat) : Int)) q2 ((π q1 : Nat) : Int))] H := hP
        have hD : va_D (va_A [cX x b ik rr hc, cT (b 1) aN ((n : Nat) : Int) ((k : Nat) : Int) ((d : Nat) : Int) ((v : Nat) : Int), cR cI (aN 3) 12 g3] sz) [cX x b ik rr hc, cT (b 1) aN ((n : Nat) : Int) ((k : Nat) : Int) ((d : Nat) : Int) ((v : Nat) : Int), cR cI (aN 3) 12 (zup (zup g3 q1 ((π q2 : Nat) : Int)) q2 ((π q1 : Nat) : Int))] := hD
        refine lv_aload_n hx hb dX3_exchange_68 rfl (lv_at hl 1 rfl) ?_
        refine va_get (D := D) (ci := 3) (v := .ref (b 1)) (C := RX3) (T := TX3) (N := 10) hx hb hts inT_X3 hown hE.1 hP 0 rfl rfl 1 (by decide) (hts _ qf_X3_19) (fun _ h9 => h9) rfl dX3_exchange_69 ?_
        refine va_getN (D := D) (ci := 1) (v := .ref (aN 3)) (C := RX1) (T := TX1) (N := 11) hx hb hts inT_X1 hown hE.1 hP 1 rfl rfl 7 (by decide) (va_Nw.use rfl (hE.2 _ nf_X3_111 rfl)) (fun _ h9 => h9) rfl dX3_exchange_72 ?_
        refine lv_iconst (v := zI 0) hx hb dX3_exchange_75 rfl ?_
        have hsw : ∀ j, j < n → zup (zup g3 q1 ((π q2 : Nat) : Int)) q2 ((π q1 : Nat) : Int) j = ((sw π q1 q2 j : Nat) : Int) := by
          intro j hj
          unfold zup sw
          by_cases h9 : j = q2
          · rw [if_pos h9, if_pos h9]
          · rw [if_neg h9, if_neg h9]
            by_cases h8 : j = q1
            · rw [if_pos h8, if_pos h8]
            · rw [if_neg h8, if_neg h8]; exact hg3 j hj
        refine z_iald hx hb hE hP 2 rfl 0 (by omega) (by omega) (by first | decide | omega) ((sw π q1 q2 0 : Nat) : Int) (hsw 0 (by omega)) dX3_exchange_76 ?_
        rw [← hQf]
        exact z_iret K hS (zup (zup g3 q1 ((π q2 : Nat) : Int)) q2 ((π q1 : Nat) : Int)) ⟨(by simp only [fExch, chk_t (show q1 < n by omega), chk_t (show q2 < n by omega)]; rw [if_neg (by omega)]), (by simp only [exP, chk_t (show q1 < n by omega), chk_t (show q2 < n by omega)]; rw [if_neg (by omega)]; exact TI_pack hT hd hsw (sw_lt (by omega) (by omega) hπ) (sw_inj (by omega) (by omega) hπi))⟩ hP hD dX3_exchange_77
      · refine lv_bipush (v := zI (-101)) hx hb dX3_exchange_27 (by decide) ?_
        rw [← hQf]
        exact z_iret K hS (g3) ⟨(by first | (simp only [fExch, chk_f b_8]; done) | (simp only [fExch, chk_t (show q1 < n by omega), chk_f b_19]; done) | (simp only [fExch, chk_t (show q1 < n by omega), chk_t (show q2 < n by omega)]; rw [if_pos (by omega)])), (by first | (simp only [exP, chk_f b_8]; exact hT) | (simp only [exP, chk_t (show q1 < n by omega), chk_f b_19]; exact hT) | (simp only [exP, chk_t (show q1 < n by omega), chk_t (show q2 < n by omega)]; rw [if_pos (by omega)]; exact hT))⟩ hP hD dX3_exchange_29
set_option maxHeartbeats 4000000 in
set_option maxRecDepth 100000 in
theorem c_X3_act (l : Launch) (D : va_G) (cI : ClassId) (x : Nat) (b : Nat → Nat) (ik rr hc : Int) (aN : Nat → Nat) (n k d v : Nat) (g0 g1 g2 g3 g4 g5 g6 : Nat → Int) (κ ν π ss sf st : Nat → Nat) (wa : Nat) (w0 : Int) (gw : Nat → Int) (gs : Nat → Int) (y1 : Int) (hT : TI n k d v g0 g1 g2 g3 g4 g5 g6 κ ν π ss sf st) (hy1 : -2147483648 ≤ y1 ∧ y1 < 2147483648) : zMi l yX3_act cX3_act 2 (some .int) ({ frames := 3, cells := 0, slots := 0, locals := 71 }) D cI [.ref x, .int (zI y1)] [cX x b ik rr hc, cT (b 1) aN ((n : Nat) : Int) ((k : Nat) : Int) ((d : Nat) : Int) ((v : Nat) : Int), cR cI (aN 2) 72 g2, cR cI (aN 3) 12 g3, cW (b 3) wa w0, cR cI wa 12 gw, cR cI (b 5) 12 gs] (fun (z : Int) (u : (Nat) × (Nat → Int) × (Int) × (Nat → Int) × (Nat → Int)) => (z = (fAct n k d κ ν π y1)) ∧ (u.1 = acD k d y1) ∧ (TI n k u.1 v g0 g1 g2 u.2.1 g4 g5 g6 κ ν (acP n k d κ ν π y1) ss sf st)) (fun (u : (Nat) × (Nat → Int) × (Int) × (Nat → Int) × (Nat → Int)) => [cX x b ik rr hc, cT (b 1) aN ((n : Nat) : Int) ((k : Nat) : Int) ((u.1 : Nat) : Int) ((v : Nat) : Int), cR cI (aN 2) 72 g2, cR cI (aN 3) 12 u.2.1, cW (b 3) wa u.2.2.1, cR cI wa 12 u.2.2.2.1, cR cI (b 5) 12 u.2.2.2.2]) := by
  intro sz
  refine zstart rfl (by decide) (Nat.le_of_ble_eq_true rfl) ?_
  intro p e s m below meth c ls K hnm hsz hP hD hS hl
  generalize hargs : ([.ref x, .int (zI y1)] : List Value).toArray = args at K ⊢
  generalize hQf : MQ below _ args s _ _ _ = Qf
  have K : zK p s m args meth c cX3_act 2 RX3 (some .int) D cI := K
  obtain ⟨hx, hb, hml, hown, hts, hE, -, -⟩ := id K
  have hA := zhA (ws0 := [cX x b ik rr hc, cT (b 1) aN ((n : Nat) : Int) ((k : Nat) : Int) ((d : Nat) : Int) ((v : Nat) : Int), cR cI (aN 2) 72 g2, cR cI (aN 3) 12 g3, cW (b 3) wa w0, cR cI wa 12 gw, cR cI (b 5) 12 gs]) hsz
  have hl : lv_has ls 2 [(0, .ref x), (1, .int (zI y1))] := hl
  obtain ⟨hnk, hd, hv, hg0, hκ, hg1, hν, hg2, hg3, hπ, hπi, hg4, hss, hg5, hsf, hg6, hst⟩ := id hT
  have hn : n ≤ 12 := by omega
  have hk : k ≤ 6 := by omega
  have hμ := mus_lt (k := k) hn hκ hν
  have hμi := mus_inj (k := k) hn hκ hν
  have hρ : ∀ j, j < n → rdc (mus n κ ν) k j < n := fun j hj => rdc_lt hμ (Nat.le_refl k) hj
  have hρi : inj (rdc (mus n κ ν) k) n := rdc_inj hμ hμi (Nat.le_refl k)
  refine lv_aload_n hx hb dX3_act_0 rfl (lv_at hl 0 rfl) ?_
  refine va_get (D := D) (ci := 3) (v := .ref (b 1)) (C := RX3) (T := TX3) (N := 10) hx hb hts inT_X3 hown hE.1 hP 0 rfl rfl 1 (by decide) (hts _ qf_X3_19) (fun _ h9 => h9) rfl dX3_act_1 ?_
  refine lv_iload_n hx hb dX3_act_4 rfl (lv_at hl 1 rfl) ?_
  refine zcall_i (wc := [cT (b 1) aN ((n : Nat) : Int) ((k : Nat) : Int) ((d : Nat) : Int) ((v : Nat) : Int)]) (wr := [cX x b ik rr hc, cR cI (aN 2) 72 g2, cR cI (aN 3) 12 g3, cW (b 3) wa w0, cR cI wa 12 gw, cR cI (b 5) 12 gs]) (rest := []) hE hP hD hS hA [1] [0, 2, 3, 4, 5, 6] [0, 6, 1, 2, 3, 4, 5] rfl rfl (by decide) (by decide) (by decide) (fun (u : Unit) => [cX x b ik rr hc, cT (b 1) aN ((n : Nat) : Int) ((k : Nat) : Int) ((d : Nat) : Int) ((v : Nat) : Int), cR cI (aN 2) 72 g2, cR cI (aN 3) 12 g3, cW (b 3) wa w0, cR cI wa 12 gw, cR cI (b 5) 12 gs]) (fun u => rfl) (fun hPc hDc => zrunVN (As := [.int (zI y1)]) (rest := []) (q0 := 0) (ci := 1) K k_X1_hasStep nk_X3_76 ⟨⟨rfl, rfl⟩, ⟨Nat.le_of_ble_eq_true rfl, Nat.le_of_ble_eq_true rfl⟩⟩ rfl rfl hPc hDc (c_X1_hasStep l D cI (b 1) aN n k d v y1 (by first | assumption | omega) (by first | assumption | omega) _) rfl hl.1 rfl (Nat.le_of_ble_eq_true rfl) dX3_act_5 ⟨Nat.zero_le _, Nat.zero_le _⟩) (by decide) (fun z u H locs hpost hP hD hS => ?_)
  subst hpost
  have hP : va_P D cls [cX x b ik rr hc, cT (b 1) aN ((n : Nat) : Int) ((k : Nat) : Int) ((d : Nat) : Int) ((v : Nat) : Int), cR cI (aN 2) 72 g2, cR cI (aN 3) 12 g3, cW (b 3) wa w0, cR cI wa 12 gw, cR cI (b 5) 12 gs] H := hP
  have hD : va_D (va_A [cX x b ik rr hc, cT (b 1) aN ((n : Nat) : Int) ((k : Nat) : Int) ((d : Nat) : Int) ((v : Nat) : Int), cR cI (aN 2) 72 g2, cR cI (aN 3) 12 g3, cW (b 3) wa w0, cR cI wa 12 gw, cR cI (b 5) 12 gs] sz) [cX x b ik rr hc, cT (b 1) aN ((n : Nat) : Int) ((k : Nat) : Int) ((d : Nat) : Int) ((v : Nat) : Int), cR cI (aN 2) 72 g2, cR cI (aN 3) 12 g3, cW (b 3) wa w0, cR cI wa 12 gw, cR cI (b 5) 12 gs] := hD
  refine W.eq (g2 := F0 m 8 ls [.int (zI (b01 (0 ≤ y1 ∧ y1 < k)))]) rfl ?_
  refine z_if_ne (tgt := 14) hx hb (by have := b01_r (0 ≤ y1 ∧ y1 < k); omega) dX3_act_8 (by decide) (fun c_8 => ?_) (fun c_8 => ?_)
  · have b_8 := b01_ne c_8
    obtain ⟨q1, rfl⟩ : ∃ q : Nat, y1 = (q : Int) := ⟨y1.toNat, by omega⟩
    have hcd : ∀ (α : Type) (f : Nat → α) (e9 : α), chk ((q1 : Nat) : Int) k f e9 = f q1 := fun α f e9 => chk_t (by omega)
    refine lv_aload_n hx hb dX3_act_14 rfl (lv_at hl 0 rfl) ?_
    refine va_get (D := D) (ci := 3) (v := .ref (b 1)) (C := RX3) (T := TX3) (N := 10) hx hb hts inT_X3 hown hE.1 hP 0 rfl rfl 1 (by decide) (hts _ qf_X3_19) (fun _ h9 => h9) rfl dX3_act_15 ?_
    refine va_getN (D := D) (ci := 1) (v := .int (zI ((d : Nat) : Int))) (C := RX1) (T := TX1) (N := 11) hx hb hts inT_X1 hown hE.1 hP 1 rfl rfl 2 (by decide) (va_Nw.use rfl (hE.2 _ nf_X3_117 rfl)) (fun _ h9 => h9) rfl dX3_act_18 ?_
    refine lv_sipush (v := zI 9999) hx hb dX3_act_21 (by decide) ?_
    refine z_icmp_lt (tgt := 30) hx hb (by omega) dX3_act_24 (by decide) (fun c_24 => ?_) (fun c_24 => ?_)
    · refine lv_aload_n hx hb dX3_act_30 rfl (lv_at hl 0 rfl) ?_
      refine lv_aload_n hx hb dX3_act_31 rfl (lv_at hl 0 rfl) ?_
      refine lv_iload_n hx hb dX3_act_32 rfl (lv_at hl 1 rfl) ?_
      have hm1 : ∀ j, j < n → mus n κ ν q1 j < n := fun j hj => hμ q1 j (by omega) hj
      have hm2 := hμi q1 (by omega)
      refine zcall_r (wc := [cX x b ik rr hc, cT (b 1) aN ((n : Nat) : Int) ((k : Nat) : Int) ((d : Nat) : Int) ((v : Nat) : Int), cR cI (aN 2) 72 g2, cW (b 3) wa w0, cR cI wa 12 gw]) (wr := [cR cI (aN 3) 12 g3, cR cI (b 5) 12 gs]) (rest := [.ref x]) hE hP hD hS hA [0, 1, 2, 4, 5] [3, 6] [2, 3, 4, 0, 5, 6, 1] rfl rfl (by decide) (by decide) (by decide) (fun (u : (Nat → Int)) => [cX x b ik rr hc, cT (b 1) aN ((n : Nat) : Int) ((k : Nat) : Int) ((d : Nat) : Int) ((v : Nat) : Int), cR cI (aN 2) 72 g2, cR cI (aN 3) 12 g3, cW (b 3) wa ((n : Nat) : Int), cR cI wa 12 u, cR cI (b 5) 12 gs]) (fun u => rfl) (fun hPc hDc => zrunV (As := [.int (zI ((q1 : Nat) : Int))]) (rest := [.ref x]) (q0 := 0) (ci := 3) K k_X3_wayOfStep qm_X3_86 ⟨⟨rfl, rfl⟩, ⟨Nat.le_of_ble_eq_true rfl, Nat.le_of_ble_eq_true rfl⟩⟩ rfl rfl hPc hDc (c_X3_wayOfStep l D cI x b ik rr hc aN n k d v g2 (mus n κ ν) wa w0 gw q1 (by first | assumption | omega) (by first | assumption | omega) (by first | assumption | omega) (by first | assumption | omega) (by first | assumption | omega) _) rfl hl.1 rfl (Nat.le_of_ble_eq_true rfl) dX3_act_33 ⟨Nat.zero_le _, Nat.zero_le _⟩) (by decide) (fun u H locs hpost hP hD hS => ?_)
      obtain ⟨f_1, hu⟩ : ∃ z, z = u := ⟨_, rfl⟩
      subst hu
      have hf2_33 := hpost
      have hf2_33 : ∀ j, j < n → f_1 j = (((mus n κ ν) q1 j : Nat) : Int) := hf2_33
      have hP : va_P D cls [cX x b ik rr hc, cT (b 1) aN ((n : Nat) : Int) ((k : Nat) : Int) ((d : Nat) : Int) ((v : Nat) : Int), cR cI (aN 2) 72 g2, cR cI (aN 3) 12 g3, cW (b 3) wa ((n : Nat) : Int), cR cI wa 12 f_1, cR cI (b 5) 12 gs] H := hP
      have hD : va_D (va_A [cX x b ik rr hc, cT (b 1) aN ((n : Nat) : Int) ((k : Nat) : Int) ((d : Nat) : Int) ((v : Nat) : Int), cR cI (aN 2) 72 g2, cR cI (aN 3) 12 g3, cW (b 3) wa w0, cR cI wa 12 gw, cR cI (b 5) 12 gs] sz) [cX x b ik rr hc, cT (b 1) aN ((n : Nat) : Int) ((k : Nat) : Int) ((d : Nat) : Int) ((v : Nat) : Int), cR cI (aN 2) 72 g2, cR cI (aN 3) 12 g3, cW (b 3) wa ((n : Nat) : Int), cR cI wa 12 f_1, cR cI (b 5) 12 gs] := hD
      refine lv_iconst (v := zI 1) hx hb dX3_act_36 rfl ?_
      refine zcall_i (wc := [cX x b ik rr hc, cT (b 1) aN ((n : Nat) : Int) ((k : Nat) : Int) ((d : Nat) : Int) ((v : Nat) : Int), cW (b 3) wa ((n : Nat) : Int), cR cI wa 12 f_1, cR cI (aN 3) 12 g3, cR cI (b 5) 12 gs]) (wr := [cR cI (aN 2) 72 g2]) (rest := []) hE hP hD hS hA [0, 1, 4, 5, 3, 6] [2] [1, 2, 0, 5, 3, 4, 6] rfl rfl (by decide) (by decide) (by decide) (fun (u : (Nat → Int) × (Nat → Int)) => [cX x b ik rr hc, cT (b 1) aN ((n : Nat) : Int) ((k : Nat) : Int) (((d + 1) : Nat) : Int) ((v : Nat) : Int), cR cI (aN 2) 72 g2, cR cI (aN 3) 12 u.1, cW (b 3) wa ((n : Nat) : Int), cR cI wa 12 f_1, cR cI (b 5) 12 u.2]) (fun u => rfl) (fun hPc hDc => zrunV (As := [.ref (b 3), .int (zI 1)]) (rest := []) (q0 := 0) (ci := 3) K k_X3_carryOut qm_X3_120 ⟨⟨rfl, rfl⟩, ⟨Nat.le_of_ble_eq_true rfl, Nat.le_of_ble_eq_true rfl⟩⟩ rfl rfl hPc hDc (c_X3_carryOut l D cI x b ik rr hc aN n k d v wa ((n : Nat) : Int) f_1 (mus n κ ν q1) g3 gs π 1 (by first | assumption | omega) hf2_33 hm1 hm2 (by first | assumption | omega) (by first | assumption | omega) _) rfl hl.1 rfl (Nat.le_of_ble_eq_true rfl) dX3_act_37 ⟨Nat.zero_le _, Nat.zero_le _⟩) (by decide) (fun z u H locs hpost hP hD hS => ?_)
      obtain ⟨o_2, os_3⟩ := u
      obtain ⟨rfl, ho3_37⟩ := hpost
      have ho3_37 : ∀ j, j < n → o_2 ((mus n κ ν q1) j) = ((π j : Nat) : Int) := ho3_37
      have hP : va_P D cls [cX x b ik rr hc, cT (b 1) aN ((n : Nat) : Int) ((k : Nat) : Int) (((d + 1) : Nat) : Int) ((v : Nat) : Int), cR cI (aN 2) 72 g2, cR cI (aN 3) 12 o_2, cW (b 3) wa ((n : Nat) : Int), cR cI wa 12 f_1, cR cI (b 5) 12 os_3] H := hP
      have hD : va_D (va_A [cX x b ik rr hc, cT (b 1) aN ((n : Nat) : Int) ((k : Nat) : Int) ((d : Nat) : Int) ((v : Nat) : Int), cR cI (aN 2) 72 g2, cR cI (aN 3) 12 g3, cW (b 3) wa w0, cR cI wa 12 gw, cR cI (b 5) 12 gs] sz) [cX x b ik rr hc, cT (b 1) aN ((n : Nat) : Int) ((k : Nat) : Int) (((d + 1) : Nat) : Int) ((v : Nat) : Int), cR cI (aN 2) 72 g2, cR cI (aN 3) 12 o_2, cW (b 3) wa ((n : Nat) : Int), cR cI wa 12 f_1, cR cI (b 5) 12 os_3] := hD
      refine W.eq (g2 := F0 m 40 ls [.int (zI (o_2 0))]) rfl ?_
      have hpa := pa_is hm1 hm2 ho3_37
      rw [← hQf]
      exact z_iret K hS ((d + 1), o_2, ((n : Nat) : Int), f_1, os_3) ⟨(by rw [fAct, hcd, if_neg (by omega)]; exact hpa 0 (by omega)), (by (try dsimp only); rw [acD, hcd, if_neg (by omega)]), (by (try dsimp only); rw [acP, hcd, if_neg (by omega)]; exact TI_pack hT (by omega) hpa (pa_lt hm1 hm2 hπ) (pa_inj hm1 hm2 hπi))⟩ hP hD dX3_act_40
    · refine lv_bipush (v := zI (-104)) hx hb dX3_act_27 (by decide) ?_
      rw [← hQf]
      exact z_iret K hS (d, g3, w0, gw, gs) ⟨(by rw [fAct, hcd, if_pos (by omega)]), (by (try dsimp only); rw [acD, hcd, if_pos (by omega)]), (by (try dsimp only); rw [acP, hcd, if_pos (by omega)]; exact hT)⟩ hP hD dX3_act_29
  · have b_8 := b01_eq c_8
    refine lv_bipush (v := zI (-101)) hx hb dX3_act_11 (by decide) ?_
    rw [← hQf]
    exact z_iret K hS (d, g3, w0, gw, gs) ⟨(by rw [fAct, chk_f b_8]), (by (try dsimp only); rw [acD, chk_f b_8]), (by (try dsimp only); rw [acP, chk_f b_8]; exact hT)⟩ hP hD dX3_act_13
set_option maxHeartbeats 4000000 in
set_option maxRecDepth 100000 in
theorem c_X3_whole (l : Launch) (D : va_G) (cI : ClassId) (x : Nat) (b : Nat → Nat) (ik rr hc : Int) (aN : Nat → Nat) (n k d v : Nat) (g0 g1 g2 g3 g4 g5 g6 : Nat → Int) (κ ν π ss sf st : Nat → Nat) (wa : Nat) (w0 : Int) (gw : Nat → Int) (gs : Nat → Int) (hT : TI n k d v g0 g1 g2 g3 g4 g5 g6 κ ν π ss sf st) : zMi l yX3_whole cX3_whole 1 (some .int) ({ frames := 3, cells := 0, slots := 0, locals := 71 }) D cI [.ref x] [cX x b ik rr hc, cT (b 1) aN ((n : Nat) : Int) ((k : Nat) : Int) ((d : Nat) : Int) ((v : Nat) : Int), cR cI (aN 2) 72 g2, cR cI (aN 3) 12 g3, cW (b 3) wa w0, cR cI wa 12 gw, cR cI (b 5) 12 gs] (fun (z : Int) (u : (Nat) × (Nat → Int) × (Int) × (Nat → Int) × (Nat → Int)) => (z = (fWhole n k d κ ν π)) ∧ (u.1 = whD k d) ∧ (TI n k u.1 v g0 g1 g2 u.2.1 g4 g5 g6 κ ν (whP n k d κ ν π) ss sf st)) (fun (u : (Nat) × (Nat → Int) × (Int) × (Nat → Int) × (Nat → Int)) => [cX x b ik rr hc, cT (b 1) aN ((n : Nat) : Int) ((k : Nat) : Int) ((u.1 : Nat) : Int) ((v : Nat) : Int), cR cI (aN 2) 72 g2, cR cI (aN 3) 12 u.2.1, cW (b 3) wa u.2.2.1, cR cI wa 12 u.2.2.2.1, cR cI (b 5) 12 u.2.2.2.2]) := by
  intro sz
  refine zstart rfl (by decide) (Nat.le_of_ble_eq_true rfl) ?_
  intro p e s m below meth c ls K hnm hsz hP hD hS hl
  generalize hargs : ([.ref x] : List Value).toArray = args at K ⊢
  generalize hQf : MQ below _ args s _ _ _ = Qf
  have K : zK p s m args meth c cX3_whole 1 RX3 (some .int) D cI := K
  obtain ⟨hx, hb, hml, hown, hts, hE, -, -⟩ := id K
  have hA := zhA (ws0 := [cX x b ik rr hc, cT (b 1) aN ((n : Nat) : Int) ((k : Nat) : Int) ((d : Nat) : Int) ((v : Nat) : Int), cR cI (aN 2) 72 g2, cR cI (aN 3) 12 g3, cW (b 3) wa w0, cR cI wa 12 gw, cR cI (b 5) 12 gs]) hsz
  have hl : lv_has ls 1 [(0, .ref x)] := hl
  obtain ⟨hnk, hd, hv, hg0, hκ, hg1, hν, hg2, hg3, hπ, hπi, hg4, hss, hg5, hsf, hg6, hst⟩ := id hT
  have hn : n ≤ 12 := by omega
  have hk : k ≤ 6 := by omega
  have hμ := mus_lt (k := k) hn hκ hν
  have hμi := mus_inj (k := k) hn hκ hν
  have hρ : ∀ j, j < n → rdc (mus n κ ν) k j < n := fun j hj => rdc_lt hμ (Nat.le_refl k) hj
  have hρi : inj (rdc (mus n κ ν) k) n := rdc_inj hμ hμi (Nat.le_refl k)
  refine lv_aload_n hx hb dX3_whole_0 rfl (lv_at hl 0 rfl) ?_
  refine va_get (D := D) (ci := 3) (v := .ref (b 1)) (C := RX3) (T := TX3) (N := 10) hx hb hts inT_X3 hown hE.1 hP 0 rfl rfl 1 (by decide) (hts _ qf_X3_19) (fun _ h9 => h9) rfl dX3_whole_1 ?_
  refine zcall_i (wc := [cT (b 1) aN ((n : Nat) : Int) ((k : Nat) : Int) ((d : Nat) : Int) ((v : Nat) : Int)]) (wr := [cX x b ik rr hc, cR cI (aN 2) 72 g2, cR cI (aN 3) 12 g3, cW (b 3) wa w0, cR cI wa 12 gw, cR cI (b 5) 12 gs]) (rest := []) hE hP hD hS hA [1] [0, 2, 3, 4, 5, 6] [0, 6, 1, 2, 3, 4, 5] rfl rfl (by decide) (by decide) (by decide) (fun (u : Unit) => [cX x b ik rr hc, cT (b 1) aN ((n : Nat) : Int) ((k : Nat) : Int) ((d : Nat) : Int) ((v : Nat) : Int), cR cI (aN 2) 72 g2, cR cI (aN 3) 12 g3, cW (b 3) wa w0, cR cI wa 12 gw, cR cI (b 5) 12 gs]) (fun u => rfl) (fun hPc hDc => zrunVN (As := []) (rest := []) (q0 := 0) (ci := 1) K k_X1_hasRoutine nk_X3_124 ⟨⟨rfl, rfl⟩, ⟨Nat.le_of_ble_eq_true rfl, Nat.le_of_ble_eq_true rfl⟩⟩ rfl rfl hPc hDc (c_X1_hasRoutine l D cI (b 1) aN n k d v (by first | assumption | omega) _) rfl hl.1 rfl (Nat.le_of_ble_eq_true rfl) dX3_whole_4 ⟨Nat.zero_le _, Nat.zero_le _⟩) (by decide) (fun z u H locs hpost hP hD hS => ?_)
  subst hpost
  have hP : va_P D cls [cX x b ik rr hc, cT (b 1) aN ((n : Nat) : Int) ((k : Nat) : Int) ((d : Nat) : Int) ((v : Nat) : Int), cR cI (aN 2) 72 g2, cR cI (aN 3) 12 g3, cW (b 3) wa w0, cR cI wa 12 gw, cR cI (b 5) 12 gs] H := hP
  have hD : va_D (va_A [cX x b ik rr hc, cT (b 1) aN ((n : Nat) : Int) ((k : Nat) : Int) ((d : Nat) : Int) ((v : Nat) : Int), cR cI (aN 2) 72 g2, cR cI (aN 3) 12 g3, cW (b 3) wa w0, cR cI wa 12 gw, cR cI (b 5) 12 gs] sz) [cX x b ik rr hc, cT (b 1) aN ((n : Nat) : Int) ((k : Nat) : Int) ((d : Nat) : Int) ((v : Nat) : Int), cR cI (aN 2) 72 g2, cR cI (aN 3) 12 g3, cW (b 3) wa w0, cR cI wa 12 gw, cR cI (b 5) 12 gs] := hD
  refine W.eq (g2 := F0 m 7 ls [.int (zI (b01 (0 < k)))]) rfl ?_
  refine z_if_ne (tgt := 13) hx hb (by have := b01_r (0 < k); omega) dX3_whole_7 (by decide) (fun c_7 => ?_) (fun c_7 => ?_)
  · have b_7 := b01_ne c_7
    refine lv_aload_n hx hb dX3_whole_13 rfl (lv_at hl 0 rfl) ?_
    refine va_get (D := D) (ci := 3) (v := .ref (b 1)) (C := RX3) (T := TX3) (N := 10) hx hb hts inT_X3 hown hE.1 hP 0 rfl rfl 1 (by decide) (hts _ qf_X3_19) (fun _ h9 => h9) rfl dX3_whole_14 ?_
    refine va_getN (D := D) (ci := 1) (v := .int (zI ((d : Nat) : Int))) (C := RX1) (T := TX1) (N := 11) hx hb hts inT_X1 hown hE.1 hP 1 rfl rfl 2 (by decide) (va_Nw.use rfl (hE.2 _ nf_X3_117 rfl)) (fun _ h9 => h9) rfl dX3_whole_17 ?_
    refine lv_aload_n hx hb dX3_whole_20 rfl (lv_at hl 0 rfl) ?_
    refine va_get (D := D) (ci := 3) (v := .ref (b 1)) (C := RX3) (T := TX3) (N := 10) hx hb hts inT_X3 hown hE.1 hP 0 rfl rfl 1 (by decide) (hts _ qf_X3_19) (fun _ h9 => h9) rfl dX3_whole_21 ?_
    refine va_getN (D := D) (ci := 1) (v := .int (zI ((k : Nat) : Int))) (C := RX1) (T := TX1) (N := 11) hx hb hts inT_X1 hown hE.1 hP 1 rfl rfl 1 (by decide) (va_Nw.use rfl (hE.2 _ nf_X3_73 rfl)) (fun _ h9 => h9) rfl dX3_whole_24 ?_
    refine z_iadd hx hb (((d + k) : Nat) : Int) (by omega) dX3_whole_27 ?_
    refine lv_sipush (v := zI 9999) hx hb dX3_whole_28 (by decide) ?_
    refine z_icmp_le (tgt := 37) hx hb (by omega) dX3_whole_31 (by decide) (fun c_31 => ?_) (fun c_31 => ?_)
    · refine lv_aload_n hx hb dX3_whole_37 rfl (lv_at hl 0 rfl) ?_
      refine lv_aload_n hx hb dX3_whole_38 rfl (lv_at hl 0 rfl) ?_
      refine zcall_r (wc := [cX x b ik rr hc, cT (b 1) aN ((n : Nat) : Int) ((k : Nat) : Int) ((d : Nat) : Int) ((v : Nat) : Int), cR cI (aN 2) 72 g2, cW (b 3) wa w0, cR cI wa 12 gw]) (wr := [cR cI (aN 3) 12 g3, cR cI (b 5) 12 gs]) (rest := [.ref x]) hE hP hD hS hA [0, 1, 2, 4, 5] [3, 6] [2, 3, 4, 0, 5, 6, 1] rfl rfl (by decide) (by decide) (by decide) (fun (u : (Nat → Int)) => [cX x b ik rr hc, cT (b 1) aN ((n : Nat) : Int) ((k : Nat) : Int) ((d : Nat) : Int) ((v : Nat) : Int), cR cI (aN 2) 72 g2, cR cI (aN 3) 12 g3, cW (b 3) wa ((n : Nat) : Int), cR cI wa 12 u, cR cI (b 5) 12 gs]) (fun u => rfl) (fun hPc hDc => zrunV (As := []) (rest := [.ref x]) (q0 := 0) (ci := 3) K k_X3_wayOfRoutine qm_X3_127 ⟨⟨rfl, rfl⟩, ⟨Nat.le_of_ble_eq_true rfl, Nat.le_of_ble_eq_true rfl⟩⟩ rfl rfl hPc hDc (c_X3_wayOfRoutine l D cI x b ik rr hc aN n k d v g2 (mus n κ ν) wa w0 gw (by first | assumption | omega) (by first | assumption | omega) (by first | assumption | omega) (by first | assumption | omega) _) rfl hl.1 rfl (Nat.le_of_ble_eq_true rfl) dX3_whole_39 ⟨Nat.zero_le _, Nat.zero_le _⟩) (by decide) (fun u H locs hpost hP hD hS => ?_)
      obtain ⟨f_1, hu⟩ : ∃ z, z = u := ⟨_, rfl⟩
      subst hu
      have hf2_39 := hpost
      have hf2_39 : ∀ j, j < n → f_1 j = ((rdc (mus n κ ν) k j : Nat) : Int) := hf2_39
      have hP : va_P D cls [cX x b ik rr hc, cT (b 1) aN ((n : Nat) : Int) ((k : Nat) : Int) ((d : Nat) : Int) ((v : Nat) : Int), cR cI (aN 2) 72 g2, cR cI (aN 3) 12 g3, cW (b 3) wa ((n : Nat) : Int), cR cI wa 12 f_1, cR cI (b 5) 12 gs] H := hP
      have hD : va_D (va_A [cX x b ik rr hc, cT (b 1) aN ((n : Nat) : Int) ((k : Nat) : Int) ((d : Nat) : Int) ((v : Nat) : Int), cR cI (aN 2) 72 g2, cR cI (aN 3) 12 g3, cW (b 3) wa w0, cR cI wa 12 gw, cR cI (b 5) 12 gs] sz) [cX x b ik rr hc, cT (b 1) aN ((n : Nat) : Int) ((k : Nat) : Int) ((d : Nat) : Int) ((v : Nat) : Int), cR cI (aN 2) 72 g2, cR cI (aN 3) 12 g3, cW (b 3) wa ((n : Nat) : Int), cR cI wa 12 f_1, cR cI (b 5) 12 gs] := hD
      refine lv_aload_n hx hb dX3_whole_42 rfl (lv_at hl 0 rfl) ?_
      refine va_get (D := D) (ci := 3) (v := .ref (b 1)) (C := RX3) (T := TX3) (N := 10) hx hb hts inT_X3 hown hE.1 hP 0 rfl rfl 1 (by decide) (hts _ qf_X3_19) (fun _ h9 => h9) rfl dX3_whole_43 ?_
      refine va_getN (D := D) (ci := 1) (v := .int (zI ((k : Nat) : Int))) (C := RX1) (T := TX1) (N := 11) hx hb hts inT_X1 hown hE.1 hP 1 rfl rfl 1 (by decide) (va_Nw.use rfl (hE.2 _ nf_X3_73 rfl)) (fun _ h9 => h9) rfl dX3_whole_46 ?_
      refine zcall_i (wc := [cX x b ik rr hc, cT (b 1) aN ((n : Nat) : Int) ((k : Nat) : Int) ((d : Nat) : Int) ((v : Nat) : Int), cW (b 3) wa ((n : Nat) : Int), cR cI wa 12 f_1, cR cI (aN 3) 12 g3, cR cI (b 5) 12 gs]) (wr := [cR cI (aN 2) 72 g2]) (rest := []) hE hP hD hS hA [0, 1, 4, 5, 3, 6] [2] [1, 2, 0, 5, 3, 4, 6] rfl rfl (by decide) (by decide) (by decide) (fun (u : (Nat → Int) × (Nat → Int)) => [cX x b ik rr hc, cT (b 1) aN ((n : Nat) : Int) ((k : Nat) : Int) (((d + k) : Nat) : Int) ((v : Nat) : Int), cR cI (aN 2) 72 g2, cR cI (aN 3) 12 u.1, cW (b 3) wa ((n : Nat) : Int), cR cI wa 12 f_1, cR cI (b 5) 12 u.2]) (fun u => rfl) (fun hPc hDc => zrunV (As := [.ref (b 3), .int (zI ((k : Nat) : Int))]) (rest := []) (q0 := 0) (ci := 3) K k_X3_carryOut qm_X3_120 ⟨⟨rfl, rfl⟩, ⟨Nat.le_of_ble_eq_true rfl, Nat.le_of_ble_eq_true rfl⟩⟩ rfl rfl hPc hDc (c_X3_carryOut l D cI x b ik rr hc aN n k d v wa ((n : Nat) : Int) f_1 (rdc (mus n κ ν) k) g3 gs π k (by first | assumption | omega) hf2_39 hρ hρi (by first | assumption | omega) (by first | assumption | omega) _) rfl hl.1 rfl (Nat.le_of_ble_eq_true rfl) dX3_whole_49 ⟨Nat.zero_le _, Nat.zero_le _⟩) (by decide) (fun z u H locs hpost hP hD hS => ?_)
      obtain ⟨o_2, os_3⟩ := u
      obtain ⟨rfl, ho3_49⟩ := hpost
      have ho3_49 : ∀ j, j < n → o_2 ((rdc (mus n κ ν) k) j) = ((π j : Nat) : Int) := ho3_49
      have hP : va_P D cls [cX x b ik rr hc, cT (b 1) aN ((n : Nat) : Int) ((k : Nat) : Int) (((d + k) : Nat) : Int) ((v : Nat) : Int), cR cI (aN 2) 72 g2, cR cI (aN 3) 12 o_2, cW (b 3) wa ((n : Nat) : Int), cR cI wa 12 f_1, cR cI (b 5) 12 os_3] H := hP
      have hD : va_D (va_A [cX x b ik rr hc, cT (b 1) aN ((n : Nat) : Int) ((k : Nat) : Int) ((d : Nat) : Int) ((v : Nat) : Int), cR cI (aN 2) 72 g2, cR cI (aN 3) 12 g3, cW (b 3) wa w0, cR cI wa 12 gw, cR cI (b 5) 12 gs] sz) [cX x b ik rr hc, cT (b 1) aN ((n : Nat) : Int) ((k : Nat) : Int) (((d + k) : Nat) : Int) ((v : Nat) : Int), cR cI (aN 2) 72 g2, cR cI (aN 3) 12 o_2, cW (b 3) wa ((n : Nat) : Int), cR cI wa 12 f_1, cR cI (b 5) 12 os_3] := hD
      refine W.eq (g2 := F0 m 52 ls [.int (zI (o_2 0))]) rfl ?_
      have hpa := pa_is hρ hρi ho3_49
      rw [← hQf]
      exact z_iret K hS ((d + k), o_2, ((n : Nat) : Int), f_1, os_3) ⟨(by rw [fWhole, if_neg (by omega), if_neg (by omega)]; exact hpa 0 (by omega)), (by (try dsimp only); rw [whD, if_neg (by omega), if_neg (by omega)]), (by (try dsimp only); rw [whP, if_neg (by omega), if_neg (by omega)]; exact TI_pack hT (by omega) hpa (pa_lt hρ hρi hπ) (pa_inj hρ hρi hπi))⟩ hP hD dX3_whole_52
    · refine lv_bipush (v := zI (-104)) hx hb dX3_whole_34 (by decide) ?_
      rw [← hQf]
      exact z_iret K hS (d, g3, w0, gw, gs) ⟨(by rw [fWhole, if_neg (by omega), if_pos (by omega)]), (by (try dsimp only); rw [whD, if_neg (by omega), if_pos (by omega)]), (by (try dsimp only); rw [whP, if_neg (by omega), if_pos (by omega)]; exact hT)⟩ hP hD dX3_whole_36
  · have b_7 := b01_eq c_7
    refine lv_bipush (v := zI (-103)) hx hb dX3_whole_10 (by decide) ?_
    rw [← hQf]
    exact z_iret K hS (d, g3, w0, gw, gs) ⟨(by rw [fWhole, if_pos (by omega)]), (by (try dsimp only); rw [whD, if_pos (by omega)]), (by (try dsimp only); rw [whP, if_pos (by omega)]; exact hT)⟩ hP hD dX3_whole_12
set_option maxHeartbeats 4000000 in
set_option maxRecDepth 100000 in
theorem c_X3_sort (l : Launch) (D : va_G) (cI : ClassId) (x : Nat) (b : Nat → Nat) (ik rr hc : Int) (aN : Nat → Nat) (n k d v : Nat) (g0 g1 g2 g3 g4 g5 g6 : Nat → Int) (κ ν π ss sf st : Nat → Nat) (hT : TI n k d v g0 g1 g2 g3 g4 g5 g6 κ ν π ss sf st) : zMi l yX3_sort cX3_sort 2 (some .int) ({ frames := 1, cells := 0, slots := 0, locals := 22 }) D cI [.ref x] [cX x b ik rr hc, cT (b 1) aN ((n : Nat) : Int) ((k : Nat) : Int) ((d : Nat) : Int) ((v : Nat) : Int), cR cI (aN 3) 12 g3] (fun (z : Int) (u : (Nat → Int)) => (z = (fSort n k π)) ∧ (TI n k d v g0 g1 g2 u g4 g5 g6 κ ν (soP k π) ss sf st)) (fun (u : (Nat → Int)) => [cX x b ik rr hc, cT (b 1) aN ((n : Nat) : Int) ((k : Nat) : Int) ((d : Nat) : Int) ((v : Nat) : Int), cR cI (aN 3) 12 u]) := by
  intro sz
  refine zstart rfl (by decide) (Nat.le_of_ble_eq_true rfl) ?_
  intro p e s m below meth c ls K hnm hsz hP hD hS hl
  generalize hargs : ([.ref x] : List Value).toArray = args at K ⊢
  generalize hQf : MQ below _ args s _ _ _ = Qf
  have K : zK p s m args meth c cX3_sort 2 RX3 (some .int) D cI := K
  obtain ⟨hx, hb, hml, hown, hts, hE, -, -⟩ := id K
  have hA := zhA (ws0 := [cX x b ik rr hc, cT (b 1) aN ((n : Nat) : Int) ((k : Nat) : Int) ((d : Nat) : Int) ((v : Nat) : Int), cR cI (aN 3) 12 g3]) hsz
  have hl : lv_has ls 2 [(0, .ref x)] := hl
  obtain ⟨hnk, hd, hv, hg0, hκ, hg1, hν, hg2, hg3, hπ, hπi, hg4, hss, hg5, hsf, hg6, hst⟩ := id hT
  have hn : n ≤ 12 := by omega
  have hk : k ≤ 6 := by omega
  have hμ := mus_lt (k := k) hn hκ hν
  have hμi := mus_inj (k := k) hn hκ hν
  have hρ : ∀ j, j < n → rdc (mus n κ ν) k j < n := fun j hj => rdc_lt hμ (Nat.le_refl k) hj
  have hρi : inj (rdc (mus n κ ν) k) n := rdc_inj hμ hμi (Nat.le_refl k)
  refine lv_aload_n hx hb dX3_sort_0 rfl (lv_at hl 0 rfl) ?_
  refine va_get (D := D) (ci := 3) (v := .ref (b 1)) (C := RX3) (T := TX3) (N := 10) hx hb hts inT_X3 hown hE.1 hP 0 rfl rfl 1 (by decide) (hts _ qf_X3_19) (fun _ h9 => h9) rfl dX3_sort_1 ?_
  refine zcall_i (wc := [cT (b 1) aN ((n : Nat) : Int) ((k : Nat) : Int) ((d : Nat) : Int) ((v : Nat) : Int)]) (wr := [cX x b ik rr hc, cR cI (aN 3) 12 g3]) (rest := []) hE hP hD hS hA [1] [0, 2] [0, 2, 1] rfl rfl (by decide) (by decide) (by decide) (fun (u : Unit) => [cX x b ik rr hc, cT (b 1) aN ((n : Nat) : Int) ((k : Nat) : Int) ((d : Nat) : Int) ((v : Nat) : Int), cR cI (aN 3) 12 g3]) (fun u => rfl) (fun hPc hDc => zrunVN (As := []) (rest := []) (q0 := 0) (ci := 1) K k_X1_hasRoutine nk_X3_124 ⟨⟨rfl, rfl⟩, ⟨Nat.le_of_ble_eq_true rfl, Nat.le_of_ble_eq_true rfl⟩⟩ rfl rfl hPc hDc (c_X1_hasRoutine l D cI (b 1) aN n k d v (by first | assumption | omega) _) rfl hl.1 rfl (Nat.le_of_ble_eq_true rfl) dX3_sort_4 ⟨Nat.zero_le _, Nat.zero_le _⟩) (by decide) (fun z u H locs hpost hP hD hS => ?_)
  subst hpost
  have hP : va_P D cls [cX x b ik rr hc, cT (b 1) aN ((n : Nat) : Int) ((k : Nat) : Int) ((d : Nat) : Int) ((v : Nat) : Int), cR cI (aN 3) 12 g3] H := hP
  have hD : va_D (va_A [cX x b ik rr hc, cT (b 1) aN ((n : Nat) : Int) ((k : Nat) : Int) ((d : Nat) : Int) ((v : Nat) : Int), cR cI (aN 3) 12 g3] sz) [cX x b ik rr hc, cT (b 1) aN ((n : Nat) : Int) ((k : Nat) : Int) ((d : Nat) : Int) ((v : Nat) : Int), cR cI (aN 3) 12 g3] := hD
  refine W.eq (g2 := F0 m 7 ls [.int (zI (b01 (0 < k)))]) rfl ?_
  refine z_if_ne (tgt := 13) hx hb (by have := b01_r (0 < k); omega) dX3_sort_7 (by decide) (fun c_7 => ?_) (fun c_7 => ?_)
  · have b_7 := b01_ne c_7
    refine lv_aload_n hx hb dX3_sort_13 rfl (lv_at hl 0 rfl) ?_
    refine va_get (D := D) (ci := 3) (v := .ref (b 1)) (C := RX3) (T := TX3) (N := 10) hx hb hts inT_X3 hown hE.1 hP 0 rfl rfl 1 (by decide) (hts _ qf_X3_19) (fun _ h9 => h9) rfl dX3_sort_14 ?_
    refine zcall_i (wc := [cT (b 1) aN ((n : Nat) : Int) ((k : Nat) : Int) ((d : Nat) : Int) ((v : Nat) : Int), cR cI (aN 3) 12 g3]) (wr := [cX x b ik rr hc]) (rest := []) hE hP hD hS hA [1, 2] [0] [0, 1, 2] rfl rfl (by decide) (by decide) (by decide) (fun (u : Unit) => [cX x b ik rr hc, cT (b 1) aN ((n : Nat) : Int) ((k : Nat) : Int) ((d : Nat) : Int) ((v : Nat) : Int), cR cI (aN 3) 12 g3]) (fun u => rfl) (fun hPc hDc => zrunVN (As := []) (rest := []) (q0 := 0) (ci := 1) K k_X1_asAtFirst nk_X3_131 ⟨⟨rfl, rfl⟩, ⟨Nat.le_of_ble_eq_true rfl, Nat.le_of_ble_eq_true rfl⟩⟩ rfl rfl hPc hDc (c_X1_asAtFirst l D cI (b 1) aN n k d v g3 π (by first | assumption | omega) (by first | assumption | omega) (by first | assumption | omega) _) rfl hl.1 rfl (Nat.le_of_ble_eq_true rfl) dX3_sort_17 ⟨Nat.zero_le _, Nat.zero_le _⟩) (by decide) (fun z u H locs hpost hP hD hS => ?_)
    subst hpost
    have hP : va_P D cls [cX x b ik rr hc, cT (b 1) aN ((n : Nat) : Int) ((k : Nat) : Int) ((d : Nat) : Int) ((v : Nat) : Int), cR cI (aN 3) 12 g3] H := hP
    have hD : va_D (va_A [cX x b ik rr hc, cT (b 1) aN ((n : Nat) : Int) ((k : Nat) : Int) ((d : Nat) : Int) ((v : Nat) : Int), cR cI (aN 3) 12 g3] sz) [cX x b ik rr hc, cT (b 1) aN ((n : Nat) : Int) ((k : Nat) : Int) ((d : Nat) : Int) ((v : Nat) : Int), cR cI (aN 3) 12 g3] := hD
    refine W.eq (g2 := F0 m 20 ls [.int (zI (((fb_ct (fun j => decide (π j = j)) n) : Nat) : Int))]) rfl ?_
    refine lv_istore_n (lv' := [(1, .int (zI (((fb_ct (fun j => decide (π j = j)) n) : Nat) : Int))), (0, .ref x)]) hx hb dX3_sort_20 rfl hl (by decide) rfl (fun ls hl => ?_)
    refine lv_aload_n hx hb dX3_sort_21 rfl (lv_at hl 1 rfl) ?_
    refine va_get (D := D) (ci := 3) (v := .ref (b 1)) (C := RX3) (T := TX3) (N := 10) hx hb hts inT_X3 hown hE.1 hP 0 rfl rfl 1 (by decide) (hts _ qf_X3_19) (fun _ h9 => h9) rfl dX3_sort_22 ?_
    refine zcall_v (wc := [cT (b 1) aN ((n : Nat) : Int) ((k : Nat) : Int) ((d : Nat) : Int) ((v : Nat) : Int), cR cI (aN 3) 12 g3]) (wr := [cX x b ik rr hc]) (rest := []) hE hP hD hS hA [1, 2] [0] [0, 1, 2] rfl rfl (by decide) (by decide) (by decide) (fun (u : Unit) => [cX x b ik rr hc, cT (b 1) aN ((n : Nat) : Int) ((k : Nat) : Int) ((d : Nat) : Int) ((v : Nat) : Int), cR cI (aN 3) 12 (zcp (fun j => (j : Int)) g3 n)]) (fun u => rfl) (fun hPc hDc => zrunVN (As := []) (rest := []) (q0 := 0) (ci := 1) K k_X1_layInOrder nk_X3_134 ⟨⟨rfl, rfl⟩, ⟨Nat.le_of_ble_eq_true rfl, Nat.le_of_ble_eq_true rfl⟩⟩ rfl rfl hPc hDc (c_X1_layInOrder l D cI (b 1) aN n k d v g3 (by first | assumption | omega) _) rfl hl.1 rfl (Nat.le_of_ble_eq_true rfl) dX3_sort_25 ⟨Nat.zero_le _, Nat.zero_le _⟩) (by decide) (fun u H locs hpost hP hD hS => ?_)
    have hP : va_P D cls [cX x b ik rr hc, cT (b 1) aN ((n : Nat) : Int) ((k : Nat) : Int) ((d : Nat) : Int) ((v : Nat) : Int), cR cI (aN 3) 12 (zcp (fun j => (j : Int)) g3 n)] H := hP
    have hD : va_D (va_A [cX x b ik rr hc, cT (b 1) aN ((n : Nat) : Int) ((k : Nat) : Int) ((d : Nat) : Int) ((v : Nat) : Int), cR cI (aN 3) 12 g3] sz) [cX x b ik rr hc, cT (b 1) aN ((n : Nat) : Int) ((k : Nat) : Int) ((d : Nat) : Int) ((v : Nat) : Int), cR cI (aN 3) 12 (zcp (fun j => (j : Int)) g3 n)] := hD
    refine lv_iload_n hx hb dX3_sort_28 rfl (lv_at hl 0 rfl) ?_
    rw [← hQf]
    exact z_iret K hS ((zcp (fun j => (j : Int)) g3 n)) ⟨(by rw [fSort, if_neg (by omega)]), (by rw [soP, if_neg (by omega)]; exact TI_pack hT hd (fun j hj => zcp_lt hj) (fun j hj => hj) (fun a b h1 _ h2 => by omega))⟩ hP hD dX3_sort_29
  · have b_7 := b01_eq c_7
    refine lv_bipush (v := zI (-103)) hx hb dX3_sort_10 (by decide) ?_
    rw [← hQf]
    exact z_iret K hS (g3) ⟨(by rw [fSort, if_pos (by omega)]), (by rw [soP, if_pos (by omega)]; exact hT)⟩ hP hD dX3_sort_12
set_option maxHeartbeats 4000000 in
set_option maxRecDepth 100000 in
theorem c_X3_change (l : Launch) (D : va_G) (cI : ClassId) (x : Nat) (b : Nat → Nat) (ik rr hc : Int) (aN : Nat → Nat) (n k d v : Nat) (g0 g1 g2 g3 g4 g5 g6 : Nat → Int) (κ ν π ss sf st : Nat → Nat) (y1 y2 y3 : Int) (hT : TI n k d v g0 g1 g2 g3 g4 g5 g6 κ ν π ss sf st) (hy1 : -2147483648 ≤ y1 ∧ y1 < 2147483648) (hy2 : -2147483648 ≤ y2 ∧ y2 < 2147483648) (hy3 : -2147483648 ≤ y3 ∧ y3 < 2147483648) : zMi l yX3_change cX3_change 5 (some .int) ({ frames := 4, cells := 0, slots := 0, locals := 98 }) D cI [.ref x, .int (zI y1), .int (zI y2), .int (zI y3)] [cX x b ik rr hc, cT (b 1) aN ((n : Nat) : Int) ((k : Nat) : Int) ((d : Nat) : Int) ((v : Nat) : Int), cR cI (aN 0) 6 g0, cR cI (aN 1) 6 g1, cR cI (aN 2) 72 g2] (fun (z : Int) (u : (Nat → Int) × (Nat → Int) × (Nat → Int)) => (z = (fChg k κ y1 y2 y3)) ∧ (TI n k d v u.1 u.2.1 u.2.2 g3 g4 g5 g6 (chK k κ y1 y2 y3) (chN k ν y1 y2 y3) π ss sf st)) (fun (u : (Nat → Int) × (Nat → Int) × (Nat → Int)) => [cX x b ik rr hc, cT (b 1) aN ((n : Nat) : Int) ((k : Nat) : Int) ((d : Nat) : Int) ((v : Nat) : Int), cR cI (aN 0) 6 u.1, cR cI (aN 1) 6 u.2.1, cR cI (aN 2) 72 u.2.2]) := by
  intro sz
  refine zstart rfl (by decide) (Nat.le_of_ble_eq_true rfl) ?_
  intro p e s m below meth c ls K hnm hsz hP hD hS hl
  generalize hargs : ([.ref x, .int (zI y1), .int (zI y2), .int (zI y3)] : List Value).toArray = args at K ⊢
  generalize hQf : MQ below _ args s _ _ _ = Qf
  have K : zK p s m args meth c cX3_change 5 RX3 (some .int) D cI := K
  obtain ⟨hx, hb, hml, hown, hts, hE, -, -⟩ := id K
  have hA := zhA (ws0 := [cX x b ik rr hc, cT (b 1) aN ((n : Nat) : Int) ((k : Nat) : Int) ((d : Nat) : Int) ((v : Nat) : Int), cR cI (aN 0) 6 g0, cR cI (aN 1) 6 g1, cR cI (aN 2) 72 g2]) hsz
  have hl : lv_has ls 5 [(0, .ref x), (1, .int (zI y1)), (2, .int (zI y2)), (3, .int (zI y3))] := hl
  obtain ⟨hnk, hd, hv, hg0, hκ, hg1, hν, hg2, hg3, hπ, hπi, hg4, hss, hg5, hsf, hg6, hst⟩ := id hT
  have hn : n ≤ 12 := by omega
  have hk : k ≤ 6 := by omega
  have hμ := mus_lt (k := k) hn hκ hν
  have hμi := mus_inj (k := k) hn hκ hν
  have hρ : ∀ j, j < n → rdc (mus n κ ν) k j < n := fun j hj => rdc_lt hμ (Nat.le_refl k) hj
  have hρi : inj (rdc (mus n κ ν) k) n := rdc_inj hμ hμi (Nat.le_refl k)
  refine lv_aload_n hx hb dX3_change_0 rfl (lv_at hl 0 rfl) ?_
  refine va_get (D := D) (ci := 3) (v := .ref (b 1)) (C := RX3) (T := TX3) (N := 10) hx hb hts inT_X3 hown hE.1 hP 0 rfl rfl 1 (by decide) (hts _ qf_X3_19) (fun _ h9 => h9) rfl dX3_change_1 ?_
  refine lv_iload_n hx hb dX3_change_4 rfl (lv_at hl 1 rfl) ?_
  refine zcall_i (wc := [cT (b 1) aN ((n : Nat) : Int) ((k : Nat) : Int) ((d : Nat) : Int) ((v : Nat) : Int)]) (wr := [cX x b ik rr hc, cR cI (aN 0) 6 g0, cR cI (aN 1) 6 g1, cR cI (aN 2) 72 g2]) (rest := []) hE hP hD hS hA [1] [0, 2, 3, 4] [0, 4, 1, 2, 3] rfl rfl (by decide) (by decide) (by decide) (fun (u : Unit) => [cX x b ik rr hc, cT (b 1) aN ((n : Nat) : Int) ((k : Nat) : Int) ((d : Nat) : Int) ((v : Nat) : Int), cR cI (aN 0) 6 g0, cR cI (aN 1) 6 g1, cR cI (aN 2) 72 g2]) (fun u => rfl) (fun hPc hDc => zrunVN (As := [.int (zI y1)]) (rest := []) (q0 := 0) (ci := 1) K k_X1_hasStep nk_X3_76 ⟨⟨rfl, rfl⟩, ⟨Nat.le_of_ble_eq_true rfl, Nat.le_of_ble_eq_true rfl⟩⟩ rfl rfl hPc hDc (c_X1_hasStep l D cI (b 1) aN n k d v y1 (by first | assumption | omega) (by first | assumption | omega) _) rfl hl.1 rfl (Nat.le_of_ble_eq_true rfl) dX3_change_5 ⟨Nat.zero_le _, Nat.zero_le _⟩) (by decide) (fun z u H locs hpost hP hD hS => ?_)
  subst hpost
  have hP : va_P D cls [cX x b ik rr hc, cT (b 1) aN ((n : Nat) : Int) ((k : Nat) : Int) ((d : Nat) : Int) ((v : Nat) : Int), cR cI (aN 0) 6 g0, cR cI (aN 1) 6 g1, cR cI (aN 2) 72 g2] H := hP
  have hD : va_D (va_A [cX x b ik rr hc, cT (b 1) aN ((n : Nat) : Int) ((k : Nat) : Int) ((d : Nat) : Int) ((v : Nat) : Int), cR cI (aN 0) 6 g0, cR cI (aN 1) 6 g1, cR cI (aN 2) 72 g2] sz) [cX x b ik rr hc, cT (b 1) aN ((n : Nat) : Int) ((k : Nat) : Int) ((d : Nat) : Int) ((v : Nat) : Int), cR cI (aN 0) 6 g0, cR cI (aN 1) 6 g1, cR cI (aN 2) 72 g2] := hD
  refine W.eq (g2 := F0 m 8 ls [.int (zI (b01 (0 ≤ y1 ∧ y1 < k)))]) rfl ?_
  refine z_if_ne (tgt := 14) hx hb (by have := b01_r (0 ≤ y1 ∧ y1 < k); omega) dX3_change_8 (by decide) (fun c_8 => ?_) (fun c_8 => ?_)
  · have b_8 := b01_ne c_8
    obtain ⟨q1, rfl⟩ : ∃ q : Nat, y1 = (q : Int) := ⟨y1.toNat, by omega⟩
    have hcd : ∀ (α : Type) (f : Nat → α) (e9 : α), chk ((q1 : Nat) : Int) k f e9 = f q1 := fun α f e9 => chk_t (by omega)
    refine lv_iload_n hx hb dX3_change_14 rfl (lv_at hl 2 rfl) ?_
    refine z_if_lt (tgt := 33) hx hb (by omega) dX3_change_15 (by decide) (fun c_15 => ?_) (fun c_15 => ?_)
    · have hbad : ∀ (α : Type) (f : Nat → Nat → α) (e9 : α), chk y2 5 (fun a => chk y3 10 (fun c => f a c) e9) e9 = e9 := by
        intro α f e9
        by_cases h9 : 0 ≤ y2 ∧ y2 < ((5 : Nat) : Int)
        · obtain ⟨q2, rfl⟩ : ∃ q : Nat, y2 = (q : Int) := ⟨y2.toNat, by omega⟩
          rw [chk_t (by omega), chk_f (by omega)]
        · rw [chk_f h9]
      refine lv_bipush (v := zI (-102)) hx hb dX3_change_33 (by decide) ?_
      rw [← hQf]
      exact z_iret K hS (g0, g1, g2) ⟨(by rw [fChg, hcd, hbad Int (fun _ _ => ((κ q1 : Nat) : Int))]), (by (try dsimp only); rw [chK, chN, hcd, hcd, hbad (Nat → Nat) (fun a _ => nup κ q1 a), hbad (Nat → Nat) (fun _ a => nup ν q1 a)]; exact hT)⟩ hP hD dX3_change_35
    · refine lv_iload_n hx hb dX3_change_18 rfl (lv_at hl 2 rfl) ?_
      refine lv_iconst (v := zI 5) hx hb dX3_change_19 rfl ?_
      refine z_icmp_ge (tgt := 33) hx hb (by omega) dX3_change_20 (by decide) (fun c_20 => ?_) (fun c_20 => ?_)
      · have hbad : ∀ (α : Type) (f : Nat → Nat → α) (e9 : α), chk y2 5 (fun a => chk y3 10 (fun c => f a c) e9) e9 = e9 := by
          intro α f e9
          by_cases h9 : 0 ≤ y2 ∧ y2 < ((5 : Nat) : Int)
          · obtain ⟨q2, rfl⟩ : ∃ q : Nat, y2 = (q : Int) := ⟨y2.toNat, by omega⟩
            rw [chk_t (by omega), chk_f (by omega)]
          · rw [chk_f h9]
        refine lv_bipush (v := zI (-102)) hx hb dX3_change_33 (by decide) ?_
        rw [← hQf]
        exact z_iret K hS (g0, g1, g2) ⟨(by rw [fChg, hcd, hbad Int (fun _ _ => ((κ q1 : Nat) : Int))]), (by (try dsimp only); rw [chK, chN, hcd, hcd, hbad (Nat → Nat) (fun a _ => nup κ q1 a), hbad (Nat → Nat) (fun _ a => nup ν q1 a)]; exact hT)⟩ hP hD dX3_change_35
      · refine lv_iload_n hx hb dX3_change_23 rfl (lv_at hl 3 rfl) ?_
        refine z_if_lt (tgt := 33) hx hb (by omega) dX3_change_24 (by decide) (fun c_24 => ?_) (fun c_24 => ?_)
        · have hbad : ∀ (α : Type) (f : Nat → Nat → α) (e9 : α), chk y2 5 (fun a => chk y3 10 (fun c => f a c) e9) e9 = e9 := by
            intro α f e9
            by_cases h9 : 0 ≤ y2 ∧ y2 < ((5 : Nat) : Int)
            · obtain ⟨q2, rfl⟩ : ∃ q : Nat, y2 = (q : Int) := ⟨y2.toNat, by omega⟩
              rw [chk_t (by omega), chk_f (by omega)]
            · rw [chk_f h9]
          refine lv_bipush (v := zI (-102)) hx hb dX3_change_33 (by decide) ?_
          rw [← hQf]
          exact z_iret K hS (g0, g1, g2) ⟨(by rw [fChg, hcd, hbad Int (fun _ _ => ((κ q1 : Nat) : Int))]), (by (try dsimp only); rw [chK, chN, hcd, hcd, hbad (Nat → Nat) (fun a _ => nup κ q1 a), hbad (Nat → Nat) (fun _ a => nup ν q1 a)]; exact hT)⟩ hP hD dX3_change_35
        · refine lv_iload_n hx hb dX3_change_27 rfl (lv_at hl 3 rfl) ?_
          refine lv_bipush (v := zI 10) hx hb dX3_change_28 (by decide) ?_
          refine z_icmp_lt (tgt := 36) hx hb (by omega) dX3_change_30 (by decide) (fun c_30 => ?_) (fun c_30 => ?_)
          · obtain ⟨q2, rfl⟩ : ∃ q : Nat, y2 = (q : Int) := ⟨y2.toNat, by omega⟩
            obtain ⟨q3, rfl⟩ : ∃ q : Nat, y3 = (q : Int) := ⟨y3.toNat, by omega⟩
            refine lv_aload_n hx hb dX3_change_36 rfl (lv_at hl 0 rfl) ?_
            refine va_get (D := D) (ci := 3) (v := .ref (b 1)) (C := RX3) (T := TX3) (N := 10) hx hb hts inT_X3 hown hE.1 hP 0 rfl rfl 1 (by decide) (hts _ qf_X3_19) (fun _ h9 => h9) rfl dX3_change_37 ?_
            refine va_getN (D := D) (ci := 1) (v := .ref (aN 0)) (C := RX1) (T := TX1) (N := 11) hx hb hts inT_X1 hown hE.1 hP 1 rfl rfl 4 (by decide) (va_Nw.use rfl (hE.2 _ nf_X3_80 rfl)) (fun _ h9 => h9) rfl dX3_change_40 ?_
            refine lv_iload_n hx hb dX3_change_43 rfl (lv_at hl 1 rfl) ?_
            refine z_iald hx hb hE hP 2 rfl q1 (by omega) (by omega) (by first | decide | omega) ((κ q1 : Nat) : Int) (hg0 q1 (by omega)) dX3_change_44 ?_
            refine lv_istore (lv' := [(4, .int (zI ((κ q1 : Nat) : Int))), (0, .ref x), (1, .int (zI ((q1 : Nat) : Int))), (2, .int (zI ((q2 : Nat) : Int))), (3, .int (zI ((q3 : Nat) : Int)))]) hx hb dX3_change_45 hl (by decide) rfl (fun ls hl => ?_)
            refine lv_aload_n hx hb dX3_change_47 rfl (lv_at hl 1 rfl) ?_
            refine va_get (D := D) (ci := 3) (v := .ref (b 1)) (C := RX3) (T := TX3) (N := 10) hx hb hts inT_X3 hown hE.1 hP 0 rfl rfl 1 (by decide) (hts _ qf_X3_19) (fun _ h9 => h9) rfl dX3_change_48 ?_
            refine lv_iload_n hx hb dX3_change_51 rfl (lv_at hl 2 rfl) ?_
            refine lv_iload_n hx hb dX3_change_52 rfl (lv_at hl 3 rfl) ?_
            refine lv_iload_n hx hb dX3_change_53 rfl (lv_at hl 4 rfl) ?_
            refine zcall_v (wc := [cT (b 1) aN ((n : Nat) : Int) ((k : Nat) : Int) ((d : Nat) : Int) ((v : Nat) : Int), cR cI (aN 0) 6 g0, cR cI (aN 1) 6 g1, cR cI (aN 2) 72 g2]) (wr := [cX x b ik rr hc]) (rest := []) hE hP hD hS hA [1, 2, 3, 4] [0] [0, 1, 2, 3, 4] rfl rfl (by decide) (by decide) (by decide) (fun (u : (Nat → Int)) => [cX x b ik rr hc, cT (b 1) aN ((n : Nat) : Int) ((k : Nat) : Int) ((d : Nat) : Int) ((v : Nat) : Int), cR cI (aN 0) 6 (zup g0 q1 ((q2 : Nat) : Int)), cR cI (aN 1) 6 (zup g1 q1 ((q3 : Nat) : Int)), cR cI (aN 2) 72 u]) (fun u => rfl) (fun hPc hDc => zrunVN (As := [.int (zI ((q1 : Nat) : Int)), .int (zI ((q2 : Nat) : Int)), .int (zI ((q3 : Nat) : Int))]) (rest := []) (q0 := 0) (ci := 1) K k_X1_setStep nk_X3_137 ⟨⟨rfl, rfl⟩, ⟨Nat.le_of_ble_eq_true rfl, Nat.le_of_ble_eq_true rfl⟩⟩ rfl rfl hPc hDc (c_X1_setStep l D cI (b 1) aN n k d v g0 g1 g2 q1 q2 q3 (by first | assumption | omega) (by first | assumption | omega) (by first | assumption | omega) (by first | assumption | omega) _) rfl hl.1 rfl (Nat.le_of_ble_eq_true rfl) dX3_change_54 ⟨Nat.zero_le _, Nat.zero_le _⟩) (by decide) (fun u H locs hpost hP hD hS => ?_)
            obtain ⟨o_1, hu⟩ : ∃ z, z = u := ⟨_, rfl⟩
            subst hu
            obtain ⟨ho2_54, ho3_54⟩ := hpost
            have ho2_54 : ∀ j, j < n → o_1 (q1 * 12 + j) = ((mv n q2 q3 j : Nat) : Int) := ho2_54
            have ho3_54 : ∀ j, (j < q1 * 12 ∨ q1 * 12 + n ≤ j) → o_1 j = g2 j := ho3_54
            have hP : va_P D cls [cX x b ik rr hc, cT (b 1) aN ((n : Nat) : Int) ((k : Nat) : Int) ((d : Nat) : Int) ((v : Nat) : Int), cR cI (aN 0) 6 (zup g0 q1 ((q2 : Nat) : Int)), cR cI (aN 1) 6 (zup g1 q1 ((q3 : Nat) : Int)), cR cI (aN 2) 72 o_1] H := hP
            have hD : va_D (va_A [cX x b ik rr hc, cT (b 1) aN ((n : Nat) : Int) ((k : Nat) : Int) ((d : Nat) : Int) ((v : Nat) : Int), cR cI (aN 0) 6 g0, cR cI (aN 1) 6 g1, cR cI (aN 2) 72 g2] sz) [cX x b ik rr hc, cT (b 1) aN ((n : Nat) : Int) ((k : Nat) : Int) ((d : Nat) : Int) ((v : Nat) : Int), cR cI (aN 0) 6 (zup g0 q1 ((q2 : Nat) : Int)), cR cI (aN 1) 6 (zup g1 q1 ((q3 : Nat) : Int)), cR cI (aN 2) 72 o_1] := hD
            refine lv_iload hx hb dX3_change_57 (lv_at hl 0 rfl) ?_
            rw [← hQf]
            exact z_iret K hS ((zup g0 q1 ((q2 : Nat) : Int)), (zup g1 q1 ((q3 : Nat) : Int)), o_1) ⟨(by simp only [fChg, hcd, chk_t (show q2 < 5 by omega), chk_t (show q3 < 10 by omega)]), (by (try dsimp only); simp only [chK, chN, hcd, chk_t (show q2 < 5 by omega), chk_t (show q3 < 10 by omega)]; exact TI_chg hT (by omega) (by omega) (by omega) ho2_54 ho3_54)⟩ hP hD dX3_change_59
          · have hbad : ∀ (α : Type) (f : Nat → Nat → α) (e9 : α), chk y2 5 (fun a => chk y3 10 (fun c => f a c) e9) e9 = e9 := by
              intro α f e9
              by_cases h9 : 0 ≤ y2 ∧ y2 < ((5 : Nat) : Int)
              · obtain ⟨q2, rfl⟩ : ∃ q : Nat, y2 = (q : Int) := ⟨y2.toNat, by omega⟩
                rw [chk_t (by omega), chk_f (by omega)]
              · rw [chk_f h9]
            refine lv_bipush (v := zI (-102)) hx hb dX3_change_33 (by decide) ?_
            rw [← hQf]
            exact z_iret K hS (g0, g1, g2) ⟨(by rw [fChg, hcd, hbad Int (fun _ _ => ((κ q1 : Nat) : Int))]), (by (try dsimp only); rw [chK, chN, hcd, hcd, hbad (Nat → Nat) (fun a _ => nup κ q1 a), hbad (Nat → Nat) (fun _ a => nup ν q1 a)]; exact hT)⟩ hP hD dX3_change_35
  · have b_8 := b01_eq c_8
    refine lv_bipush (v := zI (-101)) hx hb dX3_change_11 (by decide) ?_
    rw [← hQf]
    exact z_iret K hS (g0, g1, g2) ⟨(by rw [fChg, chk_f b_8]), (by (try dsimp only); rw [chK, chN, chk_f b_8, chk_f b_8]; exact hT)⟩ hP hD dX3_change_13
set_option maxHeartbeats 4000000 in
set_option maxRecDepth 100000 in
theorem c_X3_see (l : Launch) (D : va_G) (cI : ClassId) (x : Nat) (b : Nat → Nat) (ik rr hc : Int) (aN : Nat → Nat) (n k d v : Nat) (g0 g1 g2 g3 g4 g5 g6 : Nat → Int) (κ ν π ss sf st : Nat → Nat) (y1 y2 y3 : Int) (hT : TI n k d v g0 g1 g2 g3 g4 g5 g6 κ ν π ss sf st) (hy1 : -2147483648 ≤ y1 ∧ y1 < 2147483648) (hy2 : -2147483648 ≤ y2 ∧ y2 < 2147483648) (hy3 : -2147483648 ≤ y3 ∧ y3 < 2147483648) : zMi l yX3_see cX3_see 4 (some .int) ({ frames := 1, cells := 0, slots := 0, locals := 23 }) D cI [.ref x, .int (zI y1), .int (zI y2), .int (zI y3)] [cX x b ik rr hc, cT (b 1) aN ((n : Nat) : Int) ((k : Nat) : Int) ((d : Nat) : Int) ((v : Nat) : Int), cR cI (aN 4) 6 g4, cR cI (aN 5) 6 g5, cR cI (aN 6) 6 g6] (fun (z : Int) (u : (Nat) × (Nat → Int) × (Nat → Int) × (Nat → Int)) => (z = (fSee n k v y1 y2 y3)) ∧ (u.1 = seV n k v y1 y2 y3) ∧ (TI n k d u.1 g0 g1 g2 g3 u.2.1 u.2.2.1 u.2.2.2 κ ν π (seA n k v ss 0 y1 y2 y3) (seA n k v sf 1 y1 y2 y3) (seA n k v st 2 y1 y2 y3))) (fun (u : (Nat) × (Nat → Int) × (Nat → Int) × (Nat → Int)) => [cX x b ik rr hc, cT (b 1) aN ((n : Nat) : Int) ((k : Nat) : Int) ((d : Nat) : Int) ((u.1 : Nat) : Int), cR cI (aN 4) 6 u.2.1, cR cI (aN 5) 6 u.2.2.1, cR cI (aN 6) 6 u.2.2.2]) := by
  intro sz
  refine zstart rfl (by decide) (Nat.le_of_ble_eq_true rfl) ?_
  intro p e s m below meth c ls K hnm hsz hP hD hS hl
  generalize hargs : ([.ref x, .int (zI y1), .int (zI y2), .int (zI y3)] : List Value).toArray = args at K ⊢
  generalize hQf : MQ below _ args s _ _ _ = Qf
  have K : zK p s m args meth c cX3_see 4 RX3 (some .int) D cI := K
  obtain ⟨hx, hb, hml, hown, hts, hE, -, -⟩ := id K
  have hA := zhA (ws0 := [cX x b ik rr hc, cT (b 1) aN ((n : Nat) : Int) ((k : Nat) : Int) ((d : Nat) : Int) ((v : Nat) : Int), cR cI (aN 4) 6 g4, cR cI (aN 5) 6 g5, cR cI (aN 6) 6 g6]) hsz
  have hl : lv_has ls 4 [(0, .ref x), (1, .int (zI y1)), (2, .int (zI y2)), (3, .int (zI y3))] := hl
  obtain ⟨hnk, hd, hv, hg0, hκ, hg1, hν, hg2, hg3, hπ, hπi, hg4, hss, hg5, hsf, hg6, hst⟩ := id hT
  have hn : n ≤ 12 := by omega
  have hk : k ≤ 6 := by omega
  have hμ := mus_lt (k := k) hn hκ hν
  have hμi := mus_inj (k := k) hn hκ hν
  have hρ : ∀ j, j < n → rdc (mus n κ ν) k j < n := fun j hj => rdc_lt hμ (Nat.le_refl k) hj
  have hρi : inj (rdc (mus n κ ν) k) n := rdc_inj hμ hμi (Nat.le_refl k)
  refine lv_aload_n hx hb dX3_see_0 rfl (lv_at hl 0 rfl) ?_
  refine va_get (D := D) (ci := 3) (v := .ref (b 1)) (C := RX3) (T := TX3) (N := 10) hx hb hts inT_X3 hown hE.1 hP 0 rfl rfl 1 (by decide) (hts _ qf_X3_19) (fun _ h9 => h9) rfl dX3_see_1 ?_
  refine lv_iload_n hx hb dX3_see_4 rfl (lv_at hl 1 rfl) ?_
  refine zcall_i (wc := [cT (b 1) aN ((n : Nat) : Int) ((k : Nat) : Int) ((d : Nat) : Int) ((v : Nat) : Int)]) (wr := [cX x b ik rr hc, cR cI (aN 4) 6 g4, cR cI (aN 5) 6 g5, cR cI (aN 6) 6 g6]) (rest := []) hE hP hD hS hA [1] [0, 2, 3, 4] [0, 4, 1, 2, 3] rfl rfl (by decide) (by decide) (by decide) (fun (u : Unit) => [cX x b ik rr hc, cT (b 1) aN ((n : Nat) : Int) ((k : Nat) : Int) ((d : Nat) : Int) ((v : Nat) : Int), cR cI (aN 4) 6 g4, cR cI (aN 5) 6 g5, cR cI (aN 6) 6 g6]) (fun u => rfl) (fun hPc hDc => zrunVN (As := [.int (zI y1)]) (rest := []) (q0 := 0) (ci := 1) K k_X1_hasStep nk_X3_76 ⟨⟨rfl, rfl⟩, ⟨Nat.le_of_ble_eq_true rfl, Nat.le_of_ble_eq_true rfl⟩⟩ rfl rfl hPc hDc (c_X1_hasStep l D cI (b 1) aN n k d v y1 (by first | assumption | omega) (by first | assumption | omega) _) rfl hl.1 rfl (Nat.le_of_ble_eq_true rfl) dX3_see_5 ⟨Nat.zero_le _, Nat.zero_le _⟩) (by decide) (fun z u H locs hpost hP hD hS => ?_)
  subst hpost
  have hP : va_P D cls [cX x b ik rr hc, cT (b 1) aN ((n : Nat) : Int) ((k : Nat) : Int) ((d : Nat) : Int) ((v : Nat) : Int), cR cI (aN 4) 6 g4, cR cI (aN 5) 6 g5, cR cI (aN 6) 6 g6] H := hP
  have hD : va_D (va_A [cX x b ik rr hc, cT (b 1) aN ((n : Nat) : Int) ((k : Nat) : Int) ((d : Nat) : Int) ((v : Nat) : Int), cR cI (aN 4) 6 g4, cR cI (aN 5) 6 g5, cR cI (aN 6) 6 g6] sz) [cX x b ik rr hc, cT (b 1) aN ((n : Nat) : Int) ((k : Nat) : Int) ((d : Nat) : Int) ((v : Nat) : Int), cR cI (aN 4) 6 g4, cR cI (aN 5) 6 g5, cR cI (aN 6) 6 g6] := hD
  refine W.eq (g2 := F0 m 8 ls [.int (zI (b01 (0 ≤ y1 ∧ y1 < k)))]) rfl ?_
  refine z_if_eq (tgt := 33) hx hb (by have := b01_r (0 ≤ y1 ∧ y1 < k); omega) dX3_see_8 (by decide) (fun c_8 => ?_) (fun c_8 => ?_)
  · have b_8 := b01_eq c_8
    refine lv_bipush (v := zI (-101)) hx hb dX3_see_33 (by decide) ?_
    rw [← hQf]
    exact z_iret K hS (v, g4, g5, g6) ⟨(by first | (simp only [fSee, chk_f b_8]; done) | (simp only [fSee, chk_t (show q1 < k by omega), chk_f b_19]; done) | simp only [fSee, chk_t (show q1 < k by omega), chk_t (show q2 < n by omega), chk_f b_30]), (by (try dsimp only); first | (simp only [seV, chk_f b_8]; done) | (simp only [seV, chk_t (show q1 < k by omega), chk_f b_19]; done) | simp only [seV, chk_t (show q1 < k by omega), chk_t (show q2 < n by omega), chk_f b_30]), (by (try dsimp only); first | (simp only [seA, chk_f b_8]; exact hT) | (simp only [seA, chk_t (show q1 < k by omega), chk_f b_19]; exact hT) | (simp only [seA, chk_t (show q1 < k by omega), chk_t (show q2 < n by omega), chk_f b_30]; exact hT))⟩ hP hD dX3_see_35
  · have b_8 := b01_ne c_8
    obtain ⟨q1, rfl⟩ : ∃ q : Nat, y1 = (q : Int) := ⟨y1.toNat, by omega⟩
    refine lv_aload_n hx hb dX3_see_11 rfl (lv_at hl 0 rfl) ?_
    refine va_get (D := D) (ci := 3) (v := .ref (b 1)) (C := RX3) (T := TX3) (N := 10) hx hb hts inT_X3 hown hE.1 hP 0 rfl rfl 1 (by decide) (hts _ qf_X3_19) (fun _ h9 => h9) rfl dX3_see_12 ?_
    refine lv_iload_n hx hb dX3_see_15 rfl (lv_at hl 2 rfl) ?_
    refine zcall_i (wc := [cT (b 1) aN ((n : Nat) : Int) ((k : Nat) : Int) ((d : Nat) : Int) ((v : Nat) : Int)]) (wr := [cX x b ik rr hc, cR cI (aN 4) 6 g4, cR cI (aN 5) 6 g5, cR cI (aN 6) 6 g6]) (rest := []) hE hP hD hS hA [1] [0, 2, 3, 4] [0, 4, 1, 2, 3] rfl rfl (by decide) (by decide) (by decide) (fun (u : Unit) => [cX x b ik rr hc, cT (b 1) aN ((n : Nat) : Int) ((k : Nat) : Int) ((d : Nat) : Int) ((v : Nat) : Int), cR cI (aN 4) 6 g4, cR cI (aN 5) 6 g5, cR cI (aN 6) 6 g6]) (fun u => rfl) (fun hPc hDc => zrunVN (As := [.int (zI y2)]) (rest := []) (q0 := 0) (ci := 1) K k_X1_hasPlace nk_X3_108 ⟨⟨rfl, rfl⟩, ⟨Nat.le_of_ble_eq_true rfl, Nat.le_of_ble_eq_true rfl⟩⟩ rfl rfl hPc hDc (c_X1_hasPlace l D cI (b 1) aN n k d v y2 (by first | assumption | omega) (by first | assumption | omega) _) rfl hl.1 rfl (Nat.le_of_ble_eq_true rfl) dX3_see_16 ⟨Nat.zero_le _, Nat.zero_le _⟩) (by decide) (fun z u H locs hpost hP hD hS => ?_)
    subst hpost
    have hP : va_P D cls [cX x b ik rr hc, cT (b 1) aN ((n : Nat) : Int) ((k : Nat) : Int) ((d : Nat) : Int) ((v : Nat) : Int), cR cI (aN 4) 6 g4, cR cI (aN 5) 6 g5, cR cI (aN 6) 6 g6] H := hP
    have hD : va_D (va_A [cX x b ik rr hc, cT (b 1) aN ((n : Nat) : Int) ((k : Nat) : Int) ((d : Nat) : Int) ((v : Nat) : Int), cR cI (aN 4) 6 g4, cR cI (aN 5) 6 g5, cR cI (aN 6) 6 g6] sz) [cX x b ik rr hc, cT (b 1) aN ((n : Nat) : Int) ((k : Nat) : Int) ((d : Nat) : Int) ((v : Nat) : Int), cR cI (aN 4) 6 g4, cR cI (aN 5) 6 g5, cR cI (aN 6) 6 g6] := hD
    refine W.eq (g2 := F0 m 19 ls [.int (zI (b01 (0 ≤ y2 ∧ y2 < n)))]) rfl ?_
    refine z_if_eq (tgt := 33) hx hb (by have := b01_r (0 ≤ y2 ∧ y2 < n); omega) dX3_see_19 (by decide) (fun c_19 => ?_) (fun c_19 => ?_)
    · have b_19 := b01_eq c_19
      refine lv_bipush (v := zI (-101)) hx hb dX3_see_33 (by decide) ?_
      rw [← hQf]
      exact z_iret K hS (v, g4, g5, g6) ⟨(by first | (simp only [fSee, chk_f b_8]; done) | (simp only [fSee, chk_t (show q1 < k by omega), chk_f b_19]; done) | simp only [fSee, chk_t (show q1 < k by omega), chk_t (show q2 < n by omega), chk_f b_30]), (by (try dsimp only); first | (simp only [seV, chk_f b_8]; done) | (simp only [seV, chk_t (show q1 < k by omega), chk_f b_19]; done) | simp only [seV, chk_t (show q1 < k by omega), chk_t (show q2 < n by omega), chk_f b_30]), (by (try dsimp only); first | (simp only [seA, chk_f b_8]; exact hT) | (simp only [seA, chk_t (show q1 < k by omega), chk_f b_19]; exact hT) | (simp only [seA, chk_t (show q1 < k by omega), chk_t (show q2 < n by omega), chk_f b_30]; exact hT))⟩ hP hD dX3_see_35
    · have b_19 := b01_ne c_19
      obtain ⟨q2, rfl⟩ : ∃ q : Nat, y2 = (q : Int) := ⟨y2.toNat, by omega⟩
      refine lv_aload_n hx hb dX3_see_22 rfl (lv_at hl 0 rfl) ?_
      refine va_get (D := D) (ci := 3) (v := .ref (b 1)) (C := RX3) (T := TX3) (N := 10) hx hb hts inT_X3 hown hE.1 hP 0 rfl rfl 1 (by decide) (hts _ qf_X3_19) (fun _ h9 => h9) rfl dX3_see_23 ?_
      refine lv_iload_n hx hb dX3_see_26 rfl (lv_at hl 3 rfl) ?_
      refine zcall_i (wc := [cT (b 1) aN ((n : Nat) : Int) ((k : Nat) : Int) ((d : Nat) : Int) ((v : Nat) : Int)]) (wr := [cX x b ik rr hc, cR cI (aN 4) 6 g4, cR cI (aN 5) 6 g5, cR cI (aN 6) 6 g6]) (rest := []) hE hP hD hS hA [1] [0, 2, 3, 4] [0, 4, 1, 2, 3] rfl rfl (by decide) (by decide) (by decide) (fun (u : Unit) => [cX x b ik rr hc, cT (b 1) aN ((n : Nat) : Int) ((k : Nat) : Int) ((d : Nat) : Int) ((v : Nat) : Int), cR cI (aN 4) 6 g4, cR cI (aN 5) 6 g5, cR cI (aN 6) 6 g6]) (fun u => rfl) (fun hPc hDc => zrunVN (As := [.int (zI y3)]) (rest := []) (q0 := 0) (ci := 1) K k_X1_hasPlace nk_X3_108 ⟨⟨rfl, rfl⟩, ⟨Nat.le_of_ble_eq_true rfl, Nat.le_of_ble_eq_true rfl⟩⟩ rfl rfl hPc hDc (c_X1_hasPlace l D cI (b 1) aN n k d v y3 (by first | assumption | omega) (by first | assumption | omega) _) rfl hl.1 rfl (Nat.le_of_ble_eq_true rfl) dX3_see_27 ⟨Nat.zero_le _, Nat.zero_le _⟩) (by decide) (fun z u H locs hpost hP hD hS => ?_)
      subst hpost
      have hP : va_P D cls [cX x b ik rr hc, cT (b 1) aN ((n : Nat) : Int) ((k : Nat) : Int) ((d : Nat) : Int) ((v : Nat) : Int), cR cI (aN 4) 6 g4, cR cI (aN 5) 6 g5, cR cI (aN 6) 6 g6] H := hP
      have hD : va_D (va_A [cX x b ik rr hc, cT (b 1) aN ((n : Nat) : Int) ((k : Nat) : Int) ((d : Nat) : Int) ((v : Nat) : Int), cR cI (aN 4) 6 g4, cR cI (aN 5) 6 g5, cR cI (aN 6) 6 g6] sz) [cX x b ik rr hc, cT (b 1) aN ((n : Nat) : Int) ((k : Nat) : Int) ((d : Nat) : Int) ((v : Nat) : Int), cR cI (aN 4) 6 g4, cR cI (aN 5) 6 g5, cR cI (aN 6) 6 g6] := hD
      refine W.eq (g2 := F0 m 30 ls [.int (zI (b01 (0 ≤ y3 ∧ y3 < n)))]) rfl ?_
      refine z_if_ne (tgt := 36) hx hb (by have := b01_r (0 ≤ y3 ∧ y3 < n); omega) dX3_see_30 (by decide) (fun c_30 => ?_) (fun c_30 => ?_)
      · have b_30 := b01_ne c_30
        obtain ⟨q3, rfl⟩ : ∃ q : Nat, y3 = (q : Int) := ⟨y3.toNat, by omega⟩
        refine lv_aload_n hx hb dX3_see_36 rfl (lv_at hl 0 rfl) ?_
        refine va_get (D := D) (ci := 3) (v := .ref (b 1)) (C := RX3) (T := TX3) (N := 10) hx hb hts inT_X3 hown hE.1 hP 0 rfl rfl 1 (by decide) (hts _ qf_X3_19) (fun _ h9 => h9) rfl dX3_see_37 ?_
        refine va_getN (D := D) (ci := 1) (v := .int (zI ((v : Nat) : Int))) (C := RX1) (T := TX1) (N := 11) hx hb hts inT_X1 hown hE.1 hP 1 rfl rfl 3 (by decide) (va_Nw.use rfl (hE.2 _ nf_X3_182 rfl)) (fun _ h9 => h9) rfl dX3_see_40 ?_
        refine lv_bipush (v := zI 6) hx hb dX3_see_43 (by decide) ?_
        refine z_icmp_lt (tgt := 51) hx hb (by omega) dX3_see_45 (by decide) (fun c_45 => ?_) (fun c_45 => ?_)
        · refine lv_aload_n hx hb dX3_see_51 rfl (lv_at hl 0 rfl) ?_
          refine va_get (D := D) (ci := 3) (v := .ref (b 1)) (C := RX3) (T := TX3) (N := 10) hx hb hts inT_X3 hown hE.1 hP 0 rfl rfl 1 (by decide) (hts _ qf_X3_19) (fun _ h9 => h9) rfl dX3_see_52 ?_
          refine lv_iload_n hx hb dX3_see_55 rfl (lv_at hl 1 rfl) ?_
          refine lv_iload_n hx hb dX3_see_56 rfl (lv_at hl 2 rfl) ?_
          refine lv_iload_n hx hb dX3_see_57 rfl (lv_at hl 3 rfl) ?_
          refine zcall_v (wc := [cT (b 1) aN ((n : Nat) : Int) ((k : Nat) : Int) ((d : Nat) : Int) ((v : Nat) : Int), cR cI (aN 4) 6 g4, cR cI (aN 5) 6 g5, cR cI (aN 6) 6 g6]) (wr := [cX x b ik rr hc]) (rest := []) hE hP hD hS hA [1, 2, 3, 4] [0] [0, 1, 2, 3, 4] rfl rfl (by decide) (by decide) (by decide) (fun (u : Unit) => [cX x b ik rr hc, cT (b 1) aN ((n : Nat) : Int) ((k : Nat) : Int) ((d : Nat) : Int) (((v + 1) : Nat) : Int), cR cI (aN 4) 6 (zup g4 v ((q1 : Nat) : Int)), cR cI (aN 5) 6 (zup g5 v ((q2 : Nat) : Int)), cR cI (aN 6) 6 (zup g6 v ((q3 : Nat) : Int))]) (fun u => rfl) (fun hPc hDc => zrunVN (As := [.int (zI ((q1 : Nat) : Int)), .int (zI ((q2 : Nat) : Int)), .int (zI ((q3 : Nat) : Int))]) (rest := []) (q0 := 0) (ci := 1) K k_X1_addSeen nk_X3_185 ⟨⟨rfl, rfl⟩, ⟨Nat.le_of_ble_eq_true rfl, Nat.le_of_ble_eq_true rfl⟩⟩ rfl rfl hPc hDc (c_X1_addSeen l D cI (b 1) aN n k d v g4 g5 g6 ((q1 : Nat) : Int) ((q2 : Nat) : Int) ((q3 : Nat) : Int) (by first | assumption | omega) _) rfl hl.1 rfl (Nat.le_of_ble_eq_true rfl) dX3_see_58 ⟨Nat.zero_le _, Nat.zero_le _⟩) (by decide) (fun u H locs hpost hP hD hS => ?_)
          have hP : va_P D cls [cX x b ik rr hc, cT (b 1) aN ((n : Nat) : Int) ((k : Nat) : Int) ((d : Nat) : Int) (((v + 1) : Nat) : Int), cR cI (aN 4) 6 (zup g4 v ((q1 : Nat) : Int)), cR cI (aN 5) 6 (zup g5 v ((q2 : Nat) : Int)), cR cI (aN 6) 6 (zup g6 v ((q3 : Nat) : Int))] H := hP
          have hD : va_D (va_A [cX x b ik rr hc, cT (b 1) aN ((n : Nat) : Int) ((k : Nat) : Int) ((d : Nat) : Int) ((v : Nat) : Int), cR cI (aN 4) 6 g4, cR cI (aN 5) 6 g5, cR cI (aN 6) 6 g6] sz) [cX x b ik rr hc, cT (b 1) aN ((n : Nat) : Int) ((k : Nat) : Int) ((d : Nat) : Int) (((v + 1) : Nat) : Int), cR cI (aN 4) 6 (zup g4 v ((q1 : Nat) : Int)), cR cI (aN 5) 6 (zup g5 v ((q2 : Nat) : Int)), cR cI (aN 6) 6 (zup g6 v ((q3 : Nat) : Int))] := hD
          refine lv_aload_n hx hb dX3_see_61 rfl (lv_at hl 0 rfl) ?_
          refine va_get (D := D) (ci := 3) (v := .ref (b 1)) (C := RX3) (T := TX3) (N := 10) hx hb hts inT_X3 hown hE.1 hP 0 rfl rfl 1 (by decide) (hts _ qf_X3_19) (fun _ h9 => h9) rfl dX3_see_62 ?_
          refine va_getN (D := D) (ci := 1) (v := .int (zI (((v + 1) : Nat) : Int))) (C := RX1) (T := TX1) (N := 11) hx hb hts inT_X1 hown hE.1 hP 1 rfl rfl 3 (by decide) (va_Nw.use rfl (hE.2 _ nf_X3_182 rfl)) (fun _ h9 => h9) rfl dX3_see_65 ?_
          rw [← hQf]
          exact z_iret K hS ((v + 1), (zup g4 v ((q1 : Nat) : Int)), (zup g5 v ((q2 : Nat) : Int)), (zup g6 v ((q3 : Nat) : Int))) ⟨(by simp only [fSee, chk_t (show q1 < k by omega), chk_t (show q2 < n by omega), chk_t (show q3 < n by omega)]; rw [if_neg (by omega)]; omega), (by (try dsimp only); simp only [seV, chk_t (show q1 < k by omega), chk_t (show q2 < n by omega), chk_t (show q3 < n by omega)]; rw [if_neg (by omega)]), (by (try dsimp only); simp only [seA, chk_t (show q1 < k by omega), chk_t (show q2 < n by omega), chk_t (show q3 < n by omega), if_neg (show ¬ 6 ≤ v by omega)]; exact TI_see hT (by omega) (by omega) (by omega) (by omega))⟩ hP hD dX3_see_68
        · refine lv_bipush (v := zI (-104)) hx hb dX3_see_48 (by decide) ?_
          rw [← hQf]
          exact z_iret K hS (v, g4, g5, g6) ⟨(by simp only [fSee, chk_t (show q1 < k by omega), chk_t (show q2 < n by omega), chk_t (show q3 < n by omega)]; rw [if_pos (by omega)]), (by (try dsimp only); simp only [seV, chk_t (show q1 < k by omega), chk_t (show q2 < n by omega), chk_t (show q3 < n by omega)]; rw [if_pos (by omega)]), (by (try dsimp only); simp only [seA, chk_t (show q1 < k by omega), chk_t (show q2 < n by omega), chk_t (show q3 < n by omega), if_pos (show 6 ≤ v by omega)]; exact hT)⟩ hP hD dX3_see_50
      · have b_30 := b01_eq c_30
        refine lv_bipush (v := zI (-101)) hx hb dX3_see_33 (by decide) ?_
        rw [← hQf]
        exact z_iret K hS (v, g4, g5, g6) ⟨(by first | (simp only [fSee, chk_f b_8]; done) | (simp only [fSee, chk_t (show q1 < k by omega), chk_f b_19]; done) | simp only [fSee, chk_t (show q1 < k by omega), chk_t (show q2 < n by omega), chk_f b_30]), (by (try dsimp only); first | (simp only [seV, chk_f b_8]; done) | (simp only [seV, chk_t (show q1 < k by omega), chk_f b_19]; done) | simp only [seV, chk_t (show q1 < k by omega), chk_t (show q2 < n by omega), chk_f b_30]), (by (try dsimp only); first | (simp only [seA, chk_f b_8]; exact hT) | (simp only [seA, chk_t (show q1 < k by omega), chk_f b_19]; exact hT) | (simp only [seA, chk_t (show q1 < k by omega), chk_t (show q2 < n by omega), chk_f b_30]; exact hT))⟩ hP hD dX3_see_35
set_option maxHeartbeats 4000000 in
set_option maxRecDepth 100000 in
theorem c_X3_forget (l : Launch) (D : va_G) (cI : ClassId) (x : Nat) (b : Nat → Nat) (ik rr hc : Int) (aN : Nat → Nat) (n k d v : Nat) (g0 g1 g2 g3 g4 g5 g6 : Nat → Int) (κ ν π ss sf st : Nat → Nat) (hT : TI n k d v g0 g1 g2 g3 g4 g5 g6 κ ν π ss sf st) : zMi l yX3_forget cX3_forget 2 (some .int) ({ frames := 0, cells := 0, slots := 0, locals := 0 }) D cI [.ref x] [cX x b ik rr hc, cT (b 1) aN ((n : Nat) : Int) ((k : Nat) : Int) ((d : Nat) : Int) ((v : Nat) : Int)] (fun (z : Int) (u : Unit) => z = ((v : Nat) : Int)) (fun (u : Unit) => [cX x b ik rr hc, cT (b 1) aN ((n : Nat) : Int) ((k : Nat) : Int) ((d : Nat) : Int) 0]) := by
  intro sz
  refine zstart rfl (by decide) (Nat.le_of_ble_eq_true rfl) ?_
  intro p e s m below meth c ls K hnm hsz hP hD hS hl
  generalize hargs : ([.ref x] : List Value).toArray = args at K ⊢
  generalize hQf : MQ below _ args s _ _ _ = Qf
  have K : zK p s m args meth c cX3_forget 2 RX3 (some .int) D cI := K
  obtain ⟨hx, hb, hml, hown, hts, hE, -, -⟩ := id K
  have hA := zhA (ws0 := [cX x b ik rr hc, cT (b 1) aN ((n : Nat) : Int) ((k : Nat) : Int) ((d : Nat) : Int) ((v : Nat) : Int)]) hsz
  have hl : lv_has ls 2 [(0, .ref x)] := hl
  obtain ⟨hnk, hd, hv, hg0, hκ, hg1, hν, hg2, hg3, hπ, hπi, hg4, hss, hg5, hsf, hg6, hst⟩ := id hT
  have hn : n ≤ 12 := by omega
  have hk : k ≤ 6 := by omega
  have hμ := mus_lt (k := k) hn hκ hν
  have hμi := mus_inj (k := k) hn hκ hν
  have hρ : ∀ j, j < n → rdc (mus n κ ν) k j < n := fun j hj => rdc_lt hμ (Nat.le_refl k) hj
  have hρi : inj (rdc (mus n κ ν) k) n := rdc_inj hμ hμi (Nat.le_refl k)
  refine lv_aload_n hx hb dX3_forget_0 rfl (lv_at hl 0 rfl) ?_
  refine va_get (D := D) (ci := 3) (v := .ref (b 1)) (C := RX3) (T := TX3) (N := 10) hx hb hts inT_X3 hown hE.1 hP 0 rfl rfl 1 (by decide) (hts _ qf_X3_19) (fun _ h9 => h9) rfl dX3_forget_1 ?_
  refine va_getN (D := D) (ci := 1) (v := .int (zI ((v : Nat) : Int))) (C := RX1) (T := TX1) (N := 11) hx hb hts inT_X1 hown hE.1 hP 1 rfl rfl 3 (by decide) (va_Nw.use rfl (hE.2 _ nf_X3_182 rfl)) (fun _ h9 => h9) rfl dX3_forget_4 ?_
  refine lv_istore_n (lv' := [(1, .int (zI ((v : Nat) : Int))), (0, .ref x)]) hx hb dX3_forget_7 rfl hl (by decide) rfl (fun ls hl => ?_)
  refine lv_aload_n hx hb dX3_forget_8 rfl (lv_at hl 1 rfl) ?_
  refine va_get (D := D) (ci := 3) (v := .ref (b 1)) (C := RX3) (T := TX3) (N := 10) hx hb hts inT_X3 hown hE.1 hP 0 rfl rfl 1 (by decide) (hts _ qf_X3_19) (fun _ h9 => h9) rfl dX3_forget_9 ?_
  refine lv_iconst (v := zI 0) hx hb dX3_forget_12 rfl ?_
  refine va_putN (D := D) (ci := 1) (v := .int (zI 0)) (ty := .int) (C := RX1) (T := TX1) (N := 11) hx hb hts inT_X1 tyX1 tyX1_ok nmX1 hown hE.1 hP hD hS 1 rfl rfl 3 (by decide) (va_Nw.use rfl (hE.2 _ nf_X3_182 rfl)) (fun _ h9 => h9) rfl (by decide +kernel) rfl rfl (Nat.le_of_ble_eq_true rfl) dX3_forget_13 (fun H locs hP hD hS => ?_)
  have hP : va_P D cls [cX x b ik rr hc, cT (b 1) aN ((n : Nat) : Int) ((k : Nat) : Int) ((d : Nat) : Int) 0] H := hP
  have hD : va_D (va_A [cX x b ik rr hc, cT (b 1) aN ((n : Nat) : Int) ((k : Nat) : Int) ((d : Nat) : Int) ((v : Nat) : Int)] sz) [cX x b ik rr hc, cT (b 1) aN ((n : Nat) : Int) ((k : Nat) : Int) ((d : Nat) : Int) 0] := hD
  refine lv_iload_n hx hb dX3_forget_16 rfl (lv_at hl 0 rfl) ?_
  rw [← hQf]
  exact z_iret K hS () (by first | rfl | omega | (split <;> omega)) hP hD dX3_forget_17
set_option maxHeartbeats 4000000 in
set_option maxRecDepth 100000 in
theorem c_X3_image (l : Launch) (D : va_G) (cI : ClassId) (x : Nat) (b : Nat → Nat) (ik rr hc : Int) (aN : Nat → Nat) (n k d v : Nat) (g0 g1 g2 g3 g4 g5 g6 : Nat → Int) (κ ν π ss sf st : Nat → Nat) (aK : Nat → Nat) (kn kk kd kv : Int) (f0 f1 f2 f3 f4 f5 f6 : Nat → Int) (hT : TI n k d v g0 g1 g2 g3 g4 g5 g6 κ ν π ss sf st) : zMi l yX3_image cX3_image 1 (some .int) ({ frames := 2, cells := 0, slots := 0, locals := 69 }) D cI [.ref x] [cX x b ik rr hc, cT (b 1) aN ((n : Nat) : Int) ((k : Nat) : Int) ((d : Nat) : Int) ((v : Nat) : Int), cR cI (aN 0) 6 g0, cR cI (aN 1) 6 g1, cR cI (aN 2) 72 g2, cR cI (aN 3) 12 g3, cR cI (aN 4) 6 g4, cR cI (aN 5) 6 g5, cR cI (aN 6) 6 g6, cT (b 2) aK kn kk kd kv, cR cI (aK 0) 6 f0, cR cI (aK 1) 6 f1, cR cI (aK 2) 72 f2, cR cI (aK 3) 12 f3, cR cI (aK 4) 6 f4, cR cI (aK 5) 6 f5, cR cI (aK 6) 6 f6] (fun (z : Int) (u : (Int) × (Int) × (Int) × (Int) × (Int) × (Nat → Int) × (Nat → Int) × (Nat → Int) × (Nat → Int) × (Nat → Int) × (Nat → Int) × (Nat → Int)) => (z = (if k = 0 then -103 else ((d : Nat) : Int))) ∧ (k = 0 → u.1 = ik ∧ u.2.1 = kn ∧ u.2.2.1 = kk ∧ u.2.2.2.1 = kd ∧ u.2.2.2.2.1 = kv ∧ u.2.2.2.2.2.1 = f0 ∧ u.2.2.2.2.2.2.1 = f1 ∧ u.2.2.2.2.2.2.2.1 = f2 ∧ u.2.2.2.2.2.2.2.2.1 = f3 ∧ u.2.2.2.2.2.2.2.2.2.1 = f4 ∧ u.2.2.2.2.2.2.2.2.2.2.1 = f5 ∧ u.2.2.2.2.2.2.2.2.2.2.2 = f6) ∧ (k ≠ 0 → u.1 = 1 ∧ u.2.1 = (n : Int) ∧ u.2.2.1 = (k : Int) ∧ u.2.2.2.1 = (d : Int) ∧ u.2.2.2.2.1 = (v : Int) ∧ TI n k d v u.2.2.2.2.2.1 u.2.2.2.2.2.2.1 u.2.2.2.2.2.2.2.1 u.2.2.2.2.2.2.2.2.1 u.2.2.2.2.2.2.2.2.2.1 u.2.2.2.2.2.2.2.2.2.2.1 u.2.2.2.2.2.2.2.2.2.2.2 κ ν π ss sf st)) (fun (u : (Int) × (Int) × (Int) × (Int) × (Int) × (Nat → Int) × (Nat → Int) × (Nat → Int) × (Nat → Int) × (Nat → Int) × (Nat → Int) × (Nat → Int)) => [cX x b u.1 rr hc, cT (b 1) aN ((n : Nat) : Int) ((k : Nat) : Int) ((d : Nat) : Int) ((v : Nat) : Int), cR cI (aN 0) 6 g0, cR cI (aN 1) 6 g1, cR cI (aN 2) 72 g2, cR cI (aN 3) 12 g3, cR cI (aN 4) 6 g4, cR cI (aN 5) 6 g5, cR cI (aN 6) 6 g6, cT (b 2) aK u.2.1 u.2.2.1 u.2.2.2.1 u.2.2.2.2.1, cR cI (aK 0) 6 u.2.2.2.2.2.1, cR cI (aK 1) 6 u.2.2.2.2.2.2.1, cR cI (aK 2) 72 u.2.2.2.2.2.2.2.1, cR cI (aK 3) 12 u.2.2.2.2.2.2.2.2.1, cR cI (aK 4) 6 u.2.2.2.2.2.2.2.2.2.1, cR cI (aK 5) 6 u.2.2.2.2.2.2.2.2.2.2.1, cR cI (aK 6) 6 u.2.2.2.2.2.2.2.2.2.2.2]) := by
  intro sz
  refine zstart rfl (by decide) (Nat.le_of_ble_eq_true rfl) ?_
  intro p e s m below meth c ls K hnm hsz hP hD hS hl
  generalize hargs : ([.ref x] : List Value).toArray = args at K ⊢
  generalize hQf : MQ below _ args s _ _ _ = Qf
  have K : zK p s m args meth c cX3_image 1 RX3 (some .int) D cI := K
  obtain ⟨hx, hb, hml, hown, hts, hE, -, -⟩ := id K
  have hA := zhA (ws0 := [cX x b ik rr hc, cT (b 1) aN ((n : Nat) : Int) ((k : Nat) : Int) ((d : Nat) : Int) ((v : Nat) : Int), cR cI (aN 0) 6 g0, cR cI (aN 1) 6 g1, cR cI (aN 2) 72 g2, cR cI (aN 3) 12 g3, cR cI (aN 4) 6 g4, cR cI (aN 5) 6 g5, cR cI (aN 6) 6 g6, cT (b 2) aK kn kk kd kv, cR cI (aK 0) 6 f0, cR cI (aK 1) 6 f1, cR cI (aK 2) 72 f2, cR cI (aK 3) 12 f3, cR cI (aK 4) 6 f4, cR cI (aK 5) 6 f5, cR cI (aK 6) 6 f6]) hsz
  have hl : lv_has ls 1 [(0, .ref x)] := hl
  obtain ⟨hnk, hd, hv, hg0, hκ, hg1, hν, hg2, hg3, hπ, hπi, hg4, hss, hg5, hsf, hg6, hst⟩ := id hT
  have hn : n ≤ 12 := by omega
  have hk : k ≤ 6 := by omega
  have hμ := mus_lt (k := k) hn hκ hν
  have hμi := mus_inj (k := k) hn hκ hν
  have hρ : ∀ j, j < n → rdc (mus n κ ν) k j < n := fun j hj => rdc_lt hμ (Nat.le_refl k) hj
  have hρi : inj (rdc (mus n κ ν) k) n := rdc_inj hμ hμi (Nat.le_refl k)
  refine lv_aload_n hx hb dX3_image_0 rfl (lv_at hl 0 rfl) ?_
  refine va_get (D := D) (ci := 3) (v := .ref (b 1)) (C := RX3) (T := TX3) (N := 10) hx hb hts inT_X3 hown hE.1 hP 0 rfl rfl 1 (by decide) (hts _ qf_X3_19) (fun _ h9 => h9) rfl dX3_image_1 ?_
  refine zcall_i (wc := [cT (b 1) aN ((n : Nat) : Int) ((k : Nat) : Int) ((d : Nat) : Int) ((v : Nat) : Int)]) (wr := [cX x b ik rr hc, cR cI (aN 0) 6 g0, cR cI (aN 1) 6 g1, cR cI (aN 2) 72 g2, cR cI (aN 3) 12 g3, cR cI (aN 4) 6 g4, cR cI (aN 5) 6 g5, cR cI (aN 6) 6 g6, cT (b 2) aK kn kk kd kv, cR cI (aK 0) 6 f0, cR cI (aK 1) 6 f1, cR cI (aK 2) 72 f2, cR cI (aK 3) 12 f3, cR cI (aK 4) 6 f4, cR cI (aK 5) 6 f5, cR cI (aK 6) 6 f6]) (rest := []) hE hP hD hS hA [1] [0, 2, 3, 4, 5, 6, 7, 8, 9, 10, 11, 12, 13, 14, 15, 16] [0, 16, 1, 2, 3, 4, 5, 6, 7, 8, 9, 10, 11, 12, 13, 14, 15] rfl rfl (by decide) (by decide) (by decide) (fun (u : Unit) => [cX x b ik rr hc, cT (b 1) aN ((n : Nat) : Int) ((k : Nat) : Int) ((d : Nat) : Int) ((v : Nat) : Int), cR cI (aN 0) 6 g0, cR cI (aN 1) 6 g1, cR cI (aN 2) 72 g2, cR cI (aN 3) 12 g3, cR cI (aN 4) 6 g4, cR cI (aN 5) 6 g5, cR cI (aN 6) 6 g6, cT (b 2) aK kn kk kd kv, cR cI (aK 0) 6 f0, cR cI (aK 1) 6 f1, cR cI (aK 2) 72 f2, cR cI (aK 3) 12 f3, cR cI (aK 4) 6 f4, cR cI (aK 5) 6 f5, cR cI (aK 6) 6 f6]) (fun u => rfl) (fun hPc hDc => zrunVN (As := []) (rest := []) (q0 := 0) (ci := 1) K k_X1_hasRoutine nk_X3_124 ⟨⟨rfl, rfl⟩, ⟨Nat.le_of_ble_eq_true rfl, Nat.le_of_ble_eq_true rfl⟩⟩ rfl rfl hPc hDc (c_X1_hasRoutine l D cI (b 1) aN n k d v (by first | assumption | omega) _) rfl hl.1 rfl (Nat.le_of_ble_eq_true rfl) dX3_image_4 ⟨Nat.zero_le _, Nat.zero_le _⟩) (by decide) (fun z u H locs hpost hP hD hS => ?_)
  subst hpost
  have hP : va_P D cls [cX x b ik rr hc, cT (b 1) aN ((n : Nat) : Int) ((k : Nat) : Int) ((d : Nat) : Int) ((v : Nat) : Int), cR cI (aN 0) 6 g0, cR cI (aN 1) 6 g1, cR cI (aN 2) 72 g2, cR cI (aN 3) 12 g3, cR cI (aN 4) 6 g4, cR cI (aN 5) 6 g5, cR cI (aN 6) 6 g6, cT (b 2) aK kn kk kd kv, cR cI (aK 0) 6 f0, cR cI (aK 1) 6 f1, cR cI (aK 2) 72 f2, cR cI (aK 3) 12 f3, cR cI (aK 4) 6 f4, cR cI (aK 5) 6 f5, cR cI (aK 6) 6 f6] H := hP
  have hD : va_D (va_A [cX x b ik rr hc, cT (b 1) aN ((n : Nat) : Int) ((k : Nat) : Int) ((d : Nat) : Int) ((v : Nat) : Int), cR cI (aN 0) 6 g0, cR cI (aN 1) 6 g1, cR cI (aN 2) 72 g2, cR cI (aN 3) 12 g3, cR cI (aN 4) 6 g4, cR cI (aN 5) 6 g5, cR cI (aN 6) 6 g6, cT (b 2) aK kn kk kd kv, cR cI (aK 0) 6 f0, cR cI (aK 1) 6 f1, cR cI (aK 2) 72 f2, cR cI (aK 3) 12 f3, cR cI (aK 4) 6 f4, cR cI (aK 5) 6 f5, cR cI (aK 6) 6 f6] sz) [cX x b ik rr hc, cT (b 1) aN ((n : Nat) : Int) ((k : Nat) : Int) ((d : Nat) : Int) ((v : Nat) : Int), cR cI (aN 0) 6 g0, cR cI (aN 1) 6 g1, cR cI (aN 2) 72 g2, cR cI (aN 3) 12 g3, cR cI (aN 4) 6 g4, cR cI (aN 5) 6 g5, cR cI (aN 6) 6 g6, cT (b 2) aK kn kk kd kv, cR cI (aK 0) 6 f0, cR cI (aK 1) 6 f1, cR cI (aK 2) 72 f2, cR cI (aK 3) 12 f3, cR cI (aK 4) 6 f4, cR cI (aK 5) 6 f5, cR cI (aK 6) 6 f6] := hD
  refine W.eq (g2 := F0 m 7 ls [.int (zI (b01 (0 < k)))]) rfl ?_
  refine z_if_ne (tgt := 13) hx hb (by have := b01_r (0 < k); omega) dX3_image_7 (by decide) (fun c_7 => ?_) (fun c_7 => ?_)
  · have b_7 := b01_ne c_7
    refine lv_aload_n hx hb dX3_image_13 rfl (lv_at hl 0 rfl) ?_
    refine va_get (D := D) (ci := 3) (v := .ref (b 2)) (C := RX3) (T := TX3) (N := 10) hx hb hts inT_X3 hown hE.1 hP 0 rfl rfl 2 (by decide) (hts _ qf_X3_23) (fun _ h9 => h9) rfl dX3_image_14 ?_
    refine lv_aload_n hx hb dX3_image_17 rfl (lv_at hl 0 rfl) ?_
    refine va_get (D := D) (ci := 3) (v := .ref (b 1)) (C := RX3) (T := TX3) (N := 10) hx hb hts inT_X3 hown hE.1 hP 0 rfl rfl 1 (by decide) (hts _ qf_X3_19) (fun _ h9 => h9) rfl dX3_image_18 ?_
    refine zcall_v (wc := [cT (b 2) aK kn kk kd kv, cR cI (aK 0) 6 f0, cR cI (aK 1) 6 f1, cR cI (aK 2) 72 f2, cR cI (aK 3) 12 f3, cR cI (aK 4) 6 f4, cR cI (aK 5) 6 f5, cR cI (aK 6) 6 f6, cT (b 1) aN ((n : Nat) : Int) ((k : Nat) : Int) ((d : Nat) : Int) ((v : Nat) : Int), cR cI (aN 0) 6 g0, cR cI (aN 1) 6 g1, cR cI (aN 2) 72 g2, cR cI (aN 3) 12 g3, cR cI (aN 4) 6 g4, cR cI (aN 5) 6 g5, cR cI (aN 6) 6 g6]) (wr := [cX x b ik rr hc]) (rest := []) hE hP hD hS hA [9, 10, 11, 12, 13, 14, 15, 16, 1, 2, 3, 4, 5, 6, 7, 8] [0] [0, 9, 10, 11, 12, 13, 14, 15, 16, 1, 2, 3, 4, 5, 6, 7, 8] rfl rfl (by decide) (by decide) (by decide) (fun (u : Unit) => [cX x b ik rr hc, cT (b 1) aN ((n : Nat) : Int) ((k : Nat) : Int) ((d : Nat) : Int) ((v : Nat) : Int), cR cI (aN 0) 6 g0, cR cI (aN 1) 6 g1, cR cI (aN 2) 72 g2, cR cI (aN 3) 12 g3, cR cI (aN 4) 6 g4, cR cI (aN 5) 6 g5, cR cI (aN 6) 6 g6, cT (b 2) aK ((n : Nat) : Int) ((k : Nat) : Int) ((d : Nat) : Int) ((v : Nat) : Int), cR cI (aK 0) 6 (zcp g0 f0 6), cR cI (aK 1) 6 (zcp g1 f1 6), cR cI (aK 2) 72 (zcp g2 f2 72), cR cI (aK 3) 12 (zcp g3 f3 12), cR cI (aK 4) 6 (zcp g4 f4 6), cR cI (aK 5) 6 (zcp g5 f5 6), cR cI (aK 6) 6 (zcp g6 f6 6)]) (fun u => rfl) (fun hPc hDc => zrunVN (As := [.ref (b 1)]) (rest := []) (q0 := 0) (ci := 1) K k_X1_copy nk_X3_198 ⟨⟨rfl, rfl⟩, ⟨Nat.le_of_ble_eq_true rfl, Nat.le_of_ble_eq_true rfl⟩⟩ rfl rfl hPc hDc (c_X1_copy l D cI (b 2) aK kn kk kd kv (b 1) aN ((n : Nat) : Int) ((k : Nat) : Int) ((d : Nat) : Int) ((v : Nat) : Int) f0 g0 f1 g1 f2 g2 f3 g3 f4 g4 f5 g5 f6 g6 _) rfl hl.1 rfl (Nat.le_of_ble_eq_true rfl) dX3_image_21 ⟨Nat.zero_le _, Nat.zero_le _⟩) (by decide) (fun u H locs hpost hP hD hS => ?_)
    have hP : va_P D cls [cX x b ik rr hc, cT (b 1) aN ((n : Nat) : Int) ((k : Nat) : Int) ((d : Nat) : Int) ((v : Nat) : Int), cR cI (aN 0) 6 g0, cR cI (aN 1) 6 g1, cR cI (aN 2) 72 g2, cR cI (aN 3) 12 g3, cR cI (aN 4) 6 g4, cR cI (aN 5) 6 g5, cR cI (aN 6) 6 g6, cT (b 2) aK ((n : Nat) : Int) ((k : Nat) : Int) ((d : Nat) : Int) ((v : Nat) : Int), cR cI (aK 0) 6 (zcp g0 f0 6), cR cI (aK 1) 6 (zcp g1 f1 6), cR cI (aK 2) 72 (zcp g2 f2 72), cR cI (aK 3) 12 (zcp g3 f3 12), cR cI (aK 4) 6 (zcp g4 f4 6), cR cI (aK 5) 6 (zcp g5 f5 6), cR cI (aK 6) 6 (zcp g6 f6 6)] H := hP
    have hD : va_D (va_A [cX x b ik rr hc, cT (b 1) aN ((n : Nat) : Int) ((k : Nat) : Int) ((d : Nat) : Int) ((v : Nat) : Int), cR cI (aN 0) 6 g0, cR cI (aN 1) 6 g1, cR cI (aN 2) 72 g2, cR cI (aN 3) 12 g3, cR cI (aN 4) 6 g4, cR cI (aN 5) 6 g5, cR cI (aN 6) 6 g6, cT (b 2) aK kn kk kd kv, cR cI (aK 0) 6 f0, cR cI (aK 1) 6 f1, cR cI (aK 2) 72 f2, cR cI (aK 3) 12 f3, cR cI (aK 4) 6 f4, cR cI (aK 5) 6 f5, cR cI (aK 6) 6 f6] sz) [cX x b ik rr hc, cT (b 1) aN ((n : Nat) : Int) ((k : Nat) : Int) ((d : Nat) : Int) ((v : Nat) : Int), cR cI (aN 0) 6 g0, cR cI (aN 1) 6 g1, cR cI (aN 2) 72 g2, cR cI (aN 3) 12 g3, cR cI (aN 4) 6 g4, cR cI (aN 5) 6 g5, cR cI (aN 6) 6 g6, cT (b 2) aK ((n : Nat) : Int) ((k : Nat) : Int) ((d : Nat) : Int) ((v : Nat) : Int), cR cI (aK 0) 6 (zcp g0 f0 6), cR cI (aK 1) 6 (zcp g1 f1 6), cR cI (aK 2) 72 (zcp g2 f2 72), cR cI (aK 3) 12 (zcp g3 f3 12), cR cI (aK 4) 6 (zcp g4 f4 6), cR cI (aK 5) 6 (zcp g5 f5 6), cR cI (aK 6) 6 (zcp g6 f6 6)] := hD
    refine lv_aload_n hx hb dX3_image_24 rfl (lv_at hl 0 rfl) ?_
    refine lv_iconst (v := zI 1) hx hb dX3_image_25 rfl ?_
    refine va_put (D := D) (ci := 3) (v := .int (zI 1)) (ty := .boolean) (C := RX3) (T := TX3) (N := 10) hx hb hts inT_X3 tyX3 tyX3_ok nmX3 hown hE.1 hP hD hS 0 rfl rfl 3 (by decide) (hts _ qf_X3_66) (fun _ h9 => h9) rfl (by decide +kernel) (by decide) (by decide) (Nat.le_of_ble_eq_true rfl) dX3_image_26 (fun H locs hP hD hS => ?_)
    have hP : va_P D cls [cX x b 1 rr hc, cT (b 1) aN ((n : Nat) : Int) ((k : Nat) : Int) ((d : Nat) : Int) ((v : Nat) : Int), cR cI (aN 0) 6 g0, cR cI (aN 1) 6 g1, cR cI (aN 2) 72 g2, cR cI (aN 3) 12 g3, cR cI (aN 4) 6 g4, cR cI (aN 5) 6 g5, cR cI (aN 6) 6 g6, cT (b 2) aK ((n : Nat) : Int) ((k : Nat) : Int) ((d : Nat) : Int) ((v : Nat) : Int), cR cI (aK 0) 6 (zcp g0 f0 6), cR cI (aK 1) 6 (zcp g1 f1 6), cR cI (aK 2) 72 (zcp g2 f2 72), cR cI (aK 3) 12 (zcp g3 f3 12), cR cI (aK 4) 6 (zcp g4 f4 6), cR cI (aK 5) 6 (zcp g5 f5 6), cR cI (aK 6) 6 (zcp g6 f6 6)] H := hP
    have hD : va_D (va_A [cX x b ik rr hc, cT (b 1) aN ((n : Nat) : Int) ((k : Nat) : Int) ((d : Nat) : Int) ((v : Nat) : Int), cR cI (aN 0) 6 g0, cR cI (aN 1) 6 g1, cR cI (aN 2) 72 g2, cR cI (aN 3) 12 g3, cR cI (aN 4) 6 g4, cR cI (aN 5) 6 g5, cR cI (aN 6) 6 g6, cT (b 2) aK kn kk kd kv, cR cI (aK 0) 6 f0, cR cI (aK 1) 6 f1, cR cI (aK 2) 72 f2, cR cI (aK 3) 12 f3, cR cI (aK 4) 6 f4, cR cI (aK 5) 6 f5, cR cI (aK 6) 6 f6] sz) [cX x b 1 rr hc, cT (b 1) aN ((n : Nat) : Int) ((k : Nat) : Int) ((d : Nat) : Int) ((v : Nat) : Int), cR cI (aN 0) 6 g0, cR cI (aN 1) 6 g1, cR cI (aN 2) 72 g2, cR cI (aN 3) 12 g3, cR cI (aN 4) 6 g4, cR cI (aN 5) 6 g5, cR cI (aN 6) 6 g6, cT (b 2) aK ((n : Nat) : Int) ((k : Nat) : Int) ((d : Nat) : Int) ((v : Nat) : Int), cR cI (aK 0) 6 (zcp g0 f0 6), cR cI (aK 1) 6 (zcp g1 f1 6), cR cI (aK 2) 72 (zcp g2 f2 72), cR cI (aK 3) 12 (zcp g3 f3 12), cR cI (aK 4) 6 (zcp g4 f4 6), cR cI (aK 5) 6 (zcp g5 f5 6), cR cI (aK 6) 6 (zcp g6 f6 6)] := hD
    refine lv_aload_n hx hb dX3_image_29 rfl (lv_at hl 0 rfl) ?_
    refine va_get (D := D) (ci := 3) (v := .ref (b 1)) (C := RX3) (T := TX3) (N := 10) hx hb hts inT_X3 hown hE.1 hP 0 rfl rfl 1 (by decide) (hts _ qf_X3_19) (fun _ h9 => h9) rfl dX3_image_30 ?_
    refine va_getN (D := D) (ci := 1) (v := .int (zI ((d : Nat) : Int))) (C := RX1) (T := TX1) (N := 11) hx hb hts inT_X1 hown hE.1 hP 1 rfl rfl 2 (by decide) (va_Nw.use rfl (hE.2 _ nf_X3_117 rfl)) (fun _ h9 => h9) rfl dX3_image_33 ?_
    rw [← hQf]
    exact z_iret K hS (1, ((n : Nat) : Int), ((k : Nat) : Int), ((d : Nat) : Int), ((v : Nat) : Int), (zcp g0 f0 6), (zcp g1 f1 6), (zcp g2 f2 72), (zcp g3 f3 12), (zcp g4 f4 6), (zcp g5 f5 6), (zcp g6 f6 6)) ⟨(by rw [if_neg (by omega)]), (by (try dsimp only); intro h9; omega), (by (try dsimp only); intro _; exact ⟨rfl, rfl, rfl, rfl, rfl, TI_cp hT⟩)⟩ hP hD dX3_image_36
  · have b_7 := b01_eq c_7
    refine lv_bipush (v := zI (-103)) hx hb dX3_image_10 (by decide) ?_
    rw [← hQf]
    exact z_iret K hS (ik, kn, kk, kd, kv, f0, f1, f2, f3, f4, f5, f6) ⟨(by rw [if_pos (by omega)]), (by (try dsimp only); intro _; exact ⟨rfl, rfl, rfl, rfl, rfl, rfl, rfl, rfl, rfl, rfl, rfl, rfl⟩), (by (try dsimp only); intro h9; omega)⟩ hP hD dX3_image_12
set_option maxHeartbeats 4000000 in
set_option maxRecDepth 100000 in
theorem c_X3_restore (l : Launch) (D : va_G) (cI : ClassId) (x : Nat) (b : Nat → Nat) (ik rr hc : Int) (aN : Nat → Nat) (n0 k0 d0 v0 : Int) (g0 g1 g2 g3 g4 g5 g6 : Nat → Int) (aK : Nat → Nat) (kn kk kd kv : Int) (f0 f1 f2 f3 f4 f5 f6 : Nat → Int) (hik : ik = 0 ∨ ik = 1) : zMi l yX3_restore cX3_restore 1 (some .int) ({ frames := 2, cells := 0, slots := 0, locals := 69 }) D cI [.ref x] [cX x b ik rr hc, cT (b 1) aN n0 k0 d0 v0, cR cI (aN 0) 6 g0, cR cI (aN 1) 6 g1, cR cI (aN 2) 72 g2, cR cI (aN 3) 12 g3, cR cI (aN 4) 6 g4, cR cI (aN 5) 6 g5, cR cI (aN 6) 6 g6, cT (b 2) aK kn kk kd kv, cR cI (aK 0) 6 f0, cR cI (aK 1) 6 f1, cR cI (aK 2) 72 f2, cR cI (aK 3) 12 f3, cR cI (aK 4) 6 f4, cR cI (aK 5) 6 f5, cR cI (aK 6) 6 f6] (fun (z : Int) (u : (Int) × (Int) × (Int) × (Int) × (Nat → Int) × (Nat → Int) × (Nat → Int) × (Nat → Int) × (Nat → Int) × (Nat → Int) × (Nat → Int)) => (z = (if ik = 0 then -103 else kd)) ∧ (ik = 0 → u.1 = n0 ∧ u.2.1 = k0 ∧ u.2.2.1 = d0 ∧ u.2.2.2.1 = v0 ∧ u.2.2.2.2.1 = g0 ∧ u.2.2.2.2.2.1 = g1 ∧ u.2.2.2.2.2.2.1 = g2 ∧ u.2.2.2.2.2.2.2.1 = g3 ∧ u.2.2.2.2.2.2.2.2.1 = g4 ∧ u.2.2.2.2.2.2.2.2.2.1 = g5 ∧ u.2.2.2.2.2.2.2.2.2.2 = g6) ∧ (ik ≠ 0 → u.1 = kn ∧ u.2.1 = kk ∧ u.2.2.1 = kd ∧ u.2.2.2.1 = kv ∧ u.2.2.2.2.1 = zcp f0 g0 6 ∧ u.2.2.2.2.2.1 = zcp f1 g1 6 ∧ u.2.2.2.2.2.2.1 = zcp f2 g2 72 ∧ u.2.2.2.2.2.2.2.1 = zcp f3 g3 12 ∧ u.2.2.2.2.2.2.2.2.1 = zcp f4 g4 6 ∧ u.2.2.2.2.2.2.2.2.2.1 = zcp f5 g5 6 ∧ u.2.2.2.2.2.2.2.2.2.2 = zcp f6 g6 6)) (fun (u : (Int) × (Int) × (Int) × (Int) × (Nat → Int) × (Nat → Int) × (Nat → Int) × (Nat → Int) × (Nat → Int) × (Nat → Int) × (Nat → Int)) => [cX x b ik rr hc, cT (b 1) aN u.1 u.2.1 u.2.2.1 u.2.2.2.1, cR cI (aN 0) 6 u.2.2.2.2.1, cR cI (aN 1) 6 u.2.2.2.2.2.1, cR cI (aN 2) 72 u.2.2.2.2.2.2.1, cR cI (aN 3) 12 u.2.2.2.2.2.2.2.1, cR cI (aN 4) 6 u.2.2.2.2.2.2.2.2.1, cR cI (aN 5) 6 u.2.2.2.2.2.2.2.2.2.1, cR cI (aN 6) 6 u.2.2.2.2.2.2.2.2.2.2, cT (b 2) aK kn kk kd kv, cR cI (aK 0) 6 f0, cR cI (aK 1) 6 f1, cR cI (aK 2) 72 f2, cR cI (aK 3) 12 f3, cR cI (aK 4) 6 f4, cR cI (aK 5) 6 f5, cR cI (aK 6) 6 f6]) := by
  intro sz
  refine zstart rfl (by decide) (Nat.le_of_ble_eq_true rfl) ?_
  intro p e s m below meth c ls K hnm hsz hP hD hS hl
  generalize hargs : ([.ref x] : List Value).toArray = args at K ⊢
  generalize hQf : MQ below _ args s _ _ _ = Qf
  have K : zK p s m args meth c cX3_restore 1 RX3 (some .int) D cI := K
  obtain ⟨hx, hb, hml, hown, hts, hE, -, -⟩ := id K
  have hA := zhA (ws0 := [cX x b ik rr hc, cT (b 1) aN n0 k0 d0 v0, cR cI (aN 0) 6 g0, cR cI (aN 1) 6 g1, cR cI (aN 2) 72 g2, cR cI (aN 3) 12 g3, cR cI (aN 4) 6 g4, cR cI (aN 5) 6 g5, cR cI (aN 6) 6 g6, cT (b 2) aK kn kk kd kv, cR cI (aK 0) 6 f0, cR cI (aK 1) 6 f1, cR cI (aK 2) 72 f2, cR cI (aK 3) 12 f3, cR cI (aK 4) 6 f4, cR cI (aK 5) 6 f5, cR cI (aK 6) 6 f6]) hsz
  have hl : lv_has ls 1 [(0, .ref x)] := hl
  refine lv_aload_n hx hb dX3_restore_0 rfl (lv_at hl 0 rfl) ?_
  refine va_get (D := D) (ci := 3) (v := .int (zI ik)) (C := RX3) (T := TX3) (N := 10) hx hb hts inT_X3 hown hE.1 hP 0 rfl rfl 3 (by decide) (hts _ qf_X3_66) (fun _ h9 => h9) rfl dX3_restore_1 ?_
  refine z_if_ne (tgt := 10) hx hb (by omega) dX3_restore_4 (by decide) (fun c_4 => ?_) (fun c_4 => ?_)
  · refine lv_aload_n hx hb dX3_restore_10 rfl (lv_at hl 0 rfl) ?_
    refine va_get (D := D) (ci := 3) (v := .ref (b 1)) (C := RX3) (T := TX3) (N := 10) hx hb hts inT_X3 hown hE.1 hP 0 rfl rfl 1 (by decide) (hts _ qf_X3_19) (fun _ h9 => h9) rfl dX3_restore_11 ?_
    refine lv_aload_n hx hb dX3_restore_14 rfl (lv_at hl 0 rfl) ?_
    refine va_get (D := D) (ci := 3) (v := .ref (b 2)) (C := RX3) (T := TX3) (N := 10) hx hb hts inT_X3 hown hE.1 hP 0 rfl rfl 2 (by decide) (hts _ qf_X3_23) (fun _ h9 => h9) rfl dX3_restore_15 ?_
    refine zcall_v (wc := [cT (b 1) aN n0 k0 d0 v0, cR cI (aN 0) 6 g0, cR cI (aN 1) 6 g1, cR cI (aN 2) 72 g2, cR cI (aN 3) 12 g3, cR cI (aN 4) 6 g4, cR cI (aN 5) 6 g5, cR cI (aN 6) 6 g6, cT (b 2) aK kn kk kd kv, cR cI (aK 0) 6 f0, cR cI (aK 1) 6 f1, cR cI (aK 2) 72 f2, cR cI (aK 3) 12 f3, cR cI (aK 4) 6 f4, cR cI (aK 5) 6 f5, cR cI (aK 6) 6 f6]) (wr := [cX x b ik rr hc]) (rest := []) hE hP hD hS hA [1, 2, 3, 4, 5, 6, 7, 8, 9, 10, 11, 12, 13, 14, 15, 16] [0] [0, 1, 2, 3, 4, 5, 6, 7, 8, 9, 10, 11, 12, 13, 14, 15, 16] rfl rfl (by decide) (by decide) (by decide) (fun (u : Unit) => [cX x b ik rr hc, cT (b 1) aN kn kk kd kv, cR cI (aN 0) 6 (zcp f0 g0 6), cR cI (aN 1) 6 (zcp f1 g1 6), cR cI (aN 2) 72 (zcp f2 g2 72), cR cI (aN 3) 12 (zcp f3 g3 12), cR cI (aN 4) 6 (zcp f4 g4 6), cR cI (aN 5) 6 (zcp f5 g5 6), cR cI (aN 6) 6 (zcp f6 g6 6), cT (b 2) aK kn kk kd kv, cR cI (aK 0) 6 f0, cR cI (aK 1) 6 f1, cR cI (aK 2) 72 f2, cR cI (aK 3) 12 f3, cR cI (aK 4) 6 f4, cR cI (aK 5) 6 f5, cR cI (aK 6) 6 f6]) (fun u => rfl) (fun hPc hDc => zrunVN (As := [.ref (b 2)]) (rest := []) (q0 := 0) (ci := 1) K k_X1_copy nk_X3_198 ⟨⟨rfl, rfl⟩, ⟨Nat.le_of_ble_eq_true rfl, Nat.le_of_ble_eq_true rfl⟩⟩ rfl rfl hPc hDc (c_X1_copy l D cI (b 1) aN n0 k0 d0 v0 (b 2) aK kn kk kd kv g0 f0 g1 f1 g2 f2 g3 f3 g4 f4 g5 f5 g6 f6 _) rfl hl.1 rfl (Nat.le_of_ble_eq_true rfl) dX3_restore_18 ⟨Nat.zero_le _, Nat.zero_le _⟩) (by decide) (fun u H locs hpost hP hD hS => ?_)
    have hP : va_P D cls [cX x b ik rr hc, cT (b 1) aN kn kk kd kv, cR cI (aN 0) 6 (zcp f0 g0 6), cR cI (aN 1) 6 (zcp f1 g1 6), cR cI (aN 2) 72 (zcp f2 g2 72), cR cI (aN 3) 12 (zcp f3 g3 12), cR cI (aN 4) 6 (zcp f4 g4 6), cR cI (aN 5) 6 (zcp f5 g5 6), cR cI (aN 6) 6 (zcp f6 g6 6), cT (b 2) aK kn kk kd kv, cR cI (aK 0) 6 f0, cR cI (aK 1) 6 f1, cR cI (aK 2) 72 f2, cR cI (aK 3) 12 f3, cR cI (aK 4) 6 f4, cR cI (aK 5) 6 f5, cR cI (aK 6) 6 f6] H := hP
    have hD : va_D (va_A [cX x b ik rr hc, cT (b 1) aN n0 k0 d0 v0, cR cI (aN 0) 6 g0, cR cI (aN 1) 6 g1, cR cI (aN 2) 72 g2, cR cI (aN 3) 12 g3, cR cI (aN 4) 6 g4, cR cI (aN 5) 6 g5, cR cI (aN 6) 6 g6, cT (b 2) aK kn kk kd kv, cR cI (aK 0) 6 f0, cR cI (aK 1) 6 f1, cR cI (aK 2) 72 f2, cR cI (aK 3) 12 f3, cR cI (aK 4) 6 f4, cR cI (aK 5) 6 f5, cR cI (aK 6) 6 f6] sz) [cX x b ik rr hc, cT (b 1) aN kn kk kd kv, cR cI (aN 0) 6 (zcp f0 g0 6), cR cI (aN 1) 6 (zcp f1 g1 6), cR cI (aN 2) 72 (zcp f2 g2 72), cR cI (aN 3) 12 (zcp f3 g3 12), cR cI (aN 4) 6 (zcp f4 g4 6), cR cI (aN 5) 6 (zcp f5 g5 6), cR cI (aN 6) 6 (zcp f6 g6 6), cT (b 2) aK kn kk kd kv, cR cI (aK 0) 6 f0, cR cI (aK 1) 6 f1, cR cI (aK 2) 72 f2, cR cI (aK 3) 12 f3, cR cI (aK 4) 6 f4, cR cI (aK 5) 6 f5, cR cI (aK 6) 6 f6] := hD
    refine lv_aload_n hx hb dX3_restore_21 rfl (lv_at hl 0 rfl) ?_
    refine va_get (D := D) (ci := 3) (v := .ref (b 1)) (C := RX3) (T := TX3) (N := 10) hx hb hts inT_X3 hown hE.1 hP 0 rfl rfl 1 (by decide) (hts _ qf_X3_19) (fun _ h9 => h9) rfl dX3_restore_22 ?_
    refine va_getN (D := D) (ci := 1) (v := .int (zI kd)) (C := RX1) (T := TX1) (N := 11) hx hb hts inT_X1 hown hE.1 hP 1 rfl rfl 2 (by decide) (va_Nw.use rfl (hE.2 _ nf_X3_117 rfl)) (fun _ h9 => h9) rfl dX3_restore_25 ?_
    rw [← hQf]
    exact z_iret K hS (kn, kk, kd, kv, (zcp f0 g0 6), (zcp f1 g1 6), (zcp f2 g2 72), (zcp f3 g3 12), (zcp f4 g4 6), (zcp f5 g5 6), (zcp f6 g6 6)) ⟨(by rw [if_neg (by omega)]), (by (try dsimp only); intro h9; omega), (by (try dsimp only); intro _; exact ⟨rfl, rfl, rfl, rfl, rfl, rfl, rfl, rfl, rfl, rfl, rfl⟩)⟩ hP hD dX3_restore_28
  · refine lv_bipush (v := zI (-103)) hx hb dX3_restore_7 (by decide) ?_
    rw [← hQf]
    exact z_iret K hS (n0, k0, d0, v0, g0, g1, g2, g3, g4, g5, g6) ⟨(by rw [if_pos (by omega)]), (by (try dsimp only); intro _; exact ⟨rfl, rfl, rfl, rfl, rfl, rfl, rfl, rfl, rfl, rfl, rfl⟩), (by (try dsimp only); intro h9; omega)⟩ hP hD dX3_restore_9
