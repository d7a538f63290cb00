set_option maxHeartbeats 4000000 in
set_option maxRecDepth 100000 in
theorem c_X0_readInto (l : Launch) (D : va_G) (cI : ClassId) (aK aV : Nat) (h lp pl : Nat) (gl : Nat → Int) (lt : Nat → Nat) (t : Nat) (a : Nat → Nat) (n0 k0 d0 v0 : Int) (g0 g1 g2 g3 : Nat → Int) (hL : LI pl gl lt) (hR : rOk pl lt) : zMvX l yX0_readInto cX0_readInto 6 none ({ frames := 4, cells := 0, slots := 0, locals := 98 }) D cI aK aV [.ref h, .ref t] [cP h lp ((pl : Nat) : Int), cR cI lp 22 gl, cT t a n0 k0 d0 v0, cR cI (a 0) 6 g0, cR cI (a 1) 6 g1, cR cI (a 2) 72 g2, cR cI (a 3) 12 g3] (fun (u : (Nat → Int) × (Nat → Int) × (Nat → Int) × (Nat → Int)) => ∀ (g4 g5 g6 : Nat → Int) (ss sf st : Nat → Nat), TI (roN lt) (roK pl) 0 0 u.1 u.2.1 u.2.2.1 u.2.2.2 g4 g5 g6 (roκ lt) (roν lt) (fun j => j) ss sf st) (fun (u : (Nat → Int) × (Nat → Int) × (Nat → Int) × (Nat → Int)) => [cP h lp ((pl : Nat) : Int), cR cI lp 22 gl, cT t a (((roN lt) : Nat) : Int) (((roK pl) : Nat) : Int) 0 0, cR cI (a 0) 6 u.1, cR cI (a 1) 6 u.2.1, cR cI (a 2) 72 u.2.2.1, cR cI (a 3) 12 u.2.2.2]) := by
  intro sz
  refine zstartX rfl (by decide) (Nat.le_of_ble_eq_true rfl) ?_
  intro p e s m below meth c ls K hnm hsz hP hD hS hl hX
  generalize hargs : ([.ref h, .ref t] : List Value).toArray = args at K ⊢
  generalize hQf : MQ below _ args s _ _ _ = Qf
  have K : zK p s m args meth c cX0_readInto 6 RX0 none D cI := K
  obtain ⟨hx, hb, hml, hown, hts, hE, -, -⟩ := id K
  have hA := zhA (ws0 := [cP h lp ((pl : Nat) : Int), cR cI lp 22 gl, cT t a n0 k0 d0 v0, cR cI (a 0) 6 g0, cR cI (a 1) 6 g1, cR cI (a 2) 72 g2, cR cI (a 3) 12 g3]) hsz
  have hl : lv_has ls 6 [(0, .ref h), (1, .ref t)] := hl
  obtain ⟨hpl, hgl, hlt⟩ := id hL
  have h01 := rOk_01 hR
  have hrn := rOk_n hR
  have hrk := rOk_k hR
  have hr5 := hR.1
  have hr20 := rOk_20 hR
  refine lv_bipush (v := zI 10) hx hb dX0_readInto_0 (by decide) ?_
  refine lv_aload_n hx hb dX0_readInto_2 rfl (lv_at hl 0 rfl) ?_
  refine va_get (D := D) (ci := 0) (v := .ref lp) (C := RX0) (T := TX0) (N := 2) hx hb hts inT_X0 hown hE.1 hP 0 rfl rfl 0 (by decide) (hts _ qf_X0_11) (fun _ h9 => h9) rfl dX0_readInto_3 ?_
  refine lv_iconst (v := zI 0) hx hb dX0_readInto_6 rfl ?_
  refine z_iald hx hb hE hP 1 rfl 0 (by omega) (by omega) (by first | decide | omega) ((lt 0 : Nat) : Int) (hgl 0 (by omega)) dX0_readInto_7 ?_
  refine lv_bipush (v := zI 48) hx hb dX0_readInto_8 (by decide) ?_
  refine z_isub hx hb (((lt 0 - 48) : Nat) : Int) (by omega) dX0_readInto_10 ?_
  refine z_imul hx hb (((10 * (lt 0 - 48)) : Nat) : Int) (by first | omega | exact (Int.natCast_mul _ _).symm) dX0_readInto_11 ?_
  refine lv_aload_n hx hb dX0_readInto_12 rfl (lv_at hl 0 rfl) ?_
  refine va_get (D := D) (ci := 0) (v := .ref lp) (C := RX0) (T := TX0) (N := 2) hx hb hts inT_X0 hown hE.1 hP 0 rfl rfl 0 (by decide) (hts _ qf_X0_11) (fun _ h9 => h9) rfl dX0_readInto_13 ?_
  refine lv_iconst (v := zI 1) hx hb dX0_readInto_16 rfl ?_
  refine z_iald hx hb hE hP 1 rfl 1 (by omega) (by omega) (by first | decide | omega) ((lt 1 : Nat) : Int) (hgl 1 (by omega)) dX0_readInto_17 ?_
  refine z_iadd hx hb ((((10 * (lt 0 - 48)) + (lt 1)) : Nat) : Int) (by omega) dX0_readInto_18 ?_
  refine lv_bipush (v := zI 48) hx hb dX0_readInto_19 (by decide) ?_
  refine z_isub hx hb ((roN lt : Nat) : Int) (by unfold roN; omega) dX0_readInto_21 ?_
  refine lv_istore_n (lv' := [(2, .int (zI ((roN lt : Nat) : Int))), (0, .ref h), (1, .ref t)]) hx hb dX0_readInto_22 rfl hl (by decide) rfl (fun ls hl => ?_)
  refine lv_aload_n hx hb dX0_readInto_23 rfl (lv_at hl 2 rfl) ?_
  refine lv_iload_n hx hb dX0_readInto_24 rfl (lv_at hl 0 rfl) ?_
  refine lv_aload_n hx hb dX0_readInto_25 rfl (lv_at hl 1 rfl) ?_
  refine va_get (D := D) (ci := 0) (v := .int (zI ((pl : Nat) : Int))) (C := RX0) (T := TX0) (N := 2) hx hb hts inT_X0 hown hE.1 hP 0 rfl rfl 1 (by decide) (hts _ qf_X0_15) (fun _ h9 => h9) rfl dX0_readInto_26 ?_
  refine lv_iconst (v := zI 1) hx hb dX0_readInto_29 rfl ?_
  refine z_iadd hx hb (((pl + 1) : Nat) : Int) (by omega) dX0_readInto_30 ?_
  refine lv_iconst (v := zI 3) hx hb dX0_readInto_31 rfl ?_
  refine z_isub hx hb (((pl - 2) : Nat) : Int) (by omega) dX0_readInto_32 ?_
  refine lv_iconst (v := zI 3) hx hb dX0_readInto_33 rfl ?_
  refine z_idiv hx hb ((roK pl : Nat) : Int) (by omega) (by first | rfl | (unfold roK; omega)) dX0_readInto_34 ?_
  refine zcall_v (wc := [cT t a n0 k0 d0 v0, cR cI (a 3) 12 g3]) (wr := [cP h lp ((pl : Nat) : Int), cR cI lp 22 gl, cR cI (a 0) 6 g0, cR cI (a 1) 6 g1, cR cI (a 2) 72 g2]) (rest := []) hE hP hD hS hA [2, 6] [0, 1, 3, 4, 5] [0, 1, 5, 2, 3, 4, 6] rfl rfl (by decide) (by decide) (by decide) (fun (u : Unit) => [cP h lp ((pl : Nat) : Int), cR cI lp 22 gl, cT t a (((roN lt) : Nat) : Int) (((roK pl) : Nat) : Int) 0 0, cR cI (a 0) 6 g0, cR cI (a 1) 6 g1, cR cI (a 2) 72 g2, cR cI (a 3) 12 (zcp (fun j => (j : Int)) g3 (roN lt))]) (fun u => rfl) (fun hPc hDc => zrunVN (As := [.int (zI ((roN lt : Nat) : Int)), .int (zI ((roK pl : Nat) : Int))]) (rest := []) (q0 := 0) (ci := 1) K k_X1_begin nk_X0_42 ⟨⟨rfl, rfl⟩, ⟨Nat.le_of_ble_eq_true rfl, Nat.le_of_ble_eq_true rfl⟩⟩ rfl rfl hPc hDc (c_X1_begin l D cI t a n0 k0 d0 v0 (roN lt) (roK pl) g3 (by first | assumption | omega) _) rfl hl.1 rfl (Nat.le_of_ble_eq_true rfl) dX0_readInto_35 ⟨Nat.zero_le _, Nat.zero_le _⟩) (by decide) (fun u H locs hpost hP hD hS => ?_)
  have hP : va_P D cls [cP h lp ((pl : Nat) : Int), cR cI lp 22 gl, cT t a (((roN lt) : Nat) : Int) (((roK pl) : Nat) : Int) 0 0, cR cI (a 0) 6 g0, cR cI (a 1) 6 g1, cR cI (a 2) 72 g2, cR cI (a 3) 12 (zcp (fun j => (j : Int)) g3 (roN lt))] H := hP
  have hD : va_D (va_A [cP h lp ((pl : Nat) : Int), cR cI lp 22 gl, cT t a n0 k0 d0 v0, cR cI (a 0) 6 g0, cR cI (a 1) 6 g1, cR cI (a 2) 72 g2, cR cI (a 3) 12 g3] sz) [cP h lp ((pl : Nat) : Int), cR cI lp 22 gl, cT t a (((roN lt) : Nat) : Int) (((roK pl) : Nat) : Int) 0 0, cR cI (a 0) 6 g0, cR cI (a 1) 6 g1, cR cI (a 2) 72 g2, cR cI (a 3) 12 (zcp (fun j => (j : Int)) g3 (roN lt))] := hD
  refine lv_iconst (v := zI 0) hx hb dX0_readInto_38 rfl ?_
  refine lv_istore_n (lv' := [(3, .int (zI 0)), (2, .int (zI ((roN lt : Nat) : Int))), (0, .ref h), (1, .ref t)]) hx hb dX0_readInto_39 rfl hl (by decide) rfl (fun ls hl => ?_)
  have cut_40 : ∀ (N_40 : Nat), ∀ (i : Nat) (q0 q1 q2 : Nat → Int), roK pl - i < N_40 → (i ≤ roK pl) → (∀ j, j < i → q0 j = ((roκ lt j : Nat) : Int)) → (∀ j, j < i → q1 j = ((roν lt j : Nat) : Int)) → (∀ q c, q < i → c < roN lt → q2 (q * 12 + c) = ((mus (roN lt) (roκ lt) (roν lt) q c : Nat) : Int)) → ∀ (H : Heap) (locs : List Loc) (ls : Array Slot), va_P D cls [cP h lp ((pl : Nat) : Int), cR cI lp 22 gl, cT t a (((roN lt) : Nat) : Int) (((roK pl) : Nat) : Int) 0 0, cR cI (a 0) 6 q0, cR cI (a 1) 6 q1, cR cI (a 2) 72 q2, cR cI (a 3) 12 (zcp (fun j => (j : Int)) g3 (roN lt))] H → va_D (va_A [cP h lp ((pl : Nat) : Int), cR cI lp 22 gl, cT t a n0 k0 d0 v0, cR cI (a 0) 6 g0, cR cI (a 1) 6 g1, cR cI (a 2) 72 g2, cR cI (a 3) 12 g3] sz) [cP h lp ((pl : Nat) : Int), cR cI lp 22 gl, cT t a (((roN lt) : Nat) : Int) (((roK pl) : Nat) : Int) 0 0, cR cI (a 0) 6 q0, cR cI (a 1) 6 q1, cR cI (a 2) 72 q2, cR cI (a 3) 12 (zcp (fun j => (j : Int)) g3 (roN lt))] → va_S (va_A [cP h lp ((pl : Nat) : Int), cR cI lp 22 gl, cT t a n0 k0 d0 v0, cR cI (a 0) 6 g0, cR cI (a 1) 6 g1, cR cI (a 2) 72 g2, cR cI (a 3) 12 g3] sz) s.heap H locs → lv_has ls 6 [(0, .ref h), (1, .ref t), (2, .int (zI ((roN lt : Nat) : Int))), (3, .int (zI ((i : Nat) : Int)))] → W p l e ({ frames := 4, cells := 0, slots := 0, locals := 98 }) s m args below meth c H locs 0 0 Qf (F0 m 40 ls []) := by
    intro N_40
    induction N_40 with
    | zero => intro i q0 q1 q2 hm_40; exact absurd hm_40 (Nat.not_lt_zero _)
    | succ N_40 ih_40 =>
      intro i q0 q1 q2 hm_40 hi hq0 hq1 hq2 H locs ls hP hD hS hl
      refine lv_iload_n hx hb dX0_readInto_40 rfl (lv_at hl 3 rfl) ?_
      refine lv_aload_n hx hb dX0_readInto_41 rfl (lv_at hl 1 rfl) ?_
      refine va_getN (D := D) (ci := 1) (v := .int (zI (((roK pl) : Nat) : Int))) (C := RX1) (T := TX1) (N := 11) hx hb hts inT_X1 hown hE.1 hP 2 rfl rfl 1 (by decide) (va_Nw.use rfl (hE.2 _ nf_X0_48 rfl)) (fun _ h9 => h9) rfl dX0_readInto_42 ?_
      refine z_icmp_ge (tgt := 95) hx hb (by omega) dX0_readInto_45 (by decide) (fun c_45 => ?_) (fun c_45 => ?_)
      · rw [← hQf]
        exact z_vret K hS (q0, q1, q2, (zcp (fun j => (j : Int)) g3 (roN lt))) (by (try dsimp only); intro g4 g5 g6 ss sf st; have e9 : i = roK pl := (by omega); rw [e9] at hq0 hq1 hq2; exact TI_ro hR hq0 hq1 hq2 (fun j hj => zcp_lt hj)) hP hD dX0_readInto_95
      · refine lv_iconst (v := zI 3) hx hb dX0_readInto_48 rfl ?_
        refine lv_iload_n hx hb dX0_readInto_49 rfl (lv_at hl 3 rfl) ?_
        refine lv_iconst (v := zI 3) hx hb dX0_readInto_50 rfl ?_
        refine z_imul hx hb (((i * 3) : Nat) : Int) (by first | omega | exact (Int.natCast_mul _ _).symm) dX0_readInto_51 ?_
        refine z_iadd hx hb (((3 + 3 * i) : Nat) : Int) (by omega) dX0_readInto_52 ?_
        refine lv_istore (lv' := [(4, .int (zI (((3 + 3 * i) : Nat) : Int))), (0, .ref h), (1, .ref t), (2, .int (zI ((roN lt : Nat) : Int))), (3, .int (zI ((i : Nat) : Int)))]) hx hb dX0_readInto_53 hl (by decide) rfl (fun ls hl => ?_)
        refine va_ldcS hx hb hown hX.1 dX0_readInto_55 ?_
        refine lv_aload_n hx hb dX0_readInto_57 rfl (lv_at hl 1 rfl) ?_
        refine va_get (D := D) (ci := 0) (v := .ref lp) (C := RX0) (T := TX0) (N := 2) hx hb hts inT_X0 hown hE.1 hP 0 rfl rfl 0 (by decide) (hts _ qf_X0_11) (fun _ h9 => h9) rfl dX0_readInto_58 ?_
        refine lv_iload hx hb dX0_readInto_61 (lv_at hl 0 rfl) ?_
        have hlk := hlt (3 + 3 * i) (by omega)
        have hln := hlt (4 + 3 * i) (by omega)
        have hk1 := rOk_κ hR (show i < roK pl by omega)
        have hn1 := rOk_ν hR (show i < roK pl by omega)
        refine z_iald hx hb hE hP 1 rfl (3 + 3 * i) (by omega) (by omega) (by first | decide | omega) ((lt (3 + 3 * i) : Nat) : Int) (hgl (3 + 3 * i) (by omega)) dX0_readInto_63 ?_
        refine z_i2c hx hb (lt (3 + 3 * i)) ⟨by first | rfl | omega, by omega⟩ dX0_readInto_64 ?_
        refine zcall_i (wc := []) (wr := [cP h lp ((pl : Nat) : Int), cR cI lp 22 gl, cT t a (((roN lt) : Nat) : Int) (((roK pl) : Nat) : Int) 0 0, cR cI (a 0) 6 q0, cR cI (a 1) 6 q1, cR cI (a 2) 72 q2, cR cI (a 3) 12 (zcp (fun j => (j : Int)) g3 (roN lt))]) (rest := []) hE hP hD hS hA [] [0, 1, 2, 3, 4, 5, 6] [0, 1, 2, 3, 4, 5, 6] rfl rfl (by decide) (by decide) (by decide) (fun (u : Unit) => [cP h lp ((pl : Nat) : Int), cR cI lp 22 gl, cT t a (((roN lt) : Nat) : Int) (((roK pl) : Nat) : Int) 0 0, cR cI (a 0) 6 q0, cR cI (a 1) 6 q1, cR cI (a 2) 72 q2, cR cI (a 3) 12 (zcp (fun j => (j : Int)) g3 (roN lt))]) (fun u => rfl) (fun hPc hDc => zrunVXs (As := [.int (zI ((lt (3 + 3 * i) : Nat) : Int))]) (rest := []) K k_J0_indexOf_0f7a4 qm_X0_37 ⟨⟨rfl, rfl⟩, ⟨Nat.le_of_ble_eq_true rfl, Nat.le_of_ble_eq_true rfl⟩⟩ hX hS (va_free hD hS hA [] rfl) hPc hDc (c_J0_indexOf_0f7a4 l D cI aK aV (lt (3 + 3 * i)) (by first | assumption | omega) _) rfl hl.1 rfl (Nat.le_of_ble_eq_true rfl) dX0_readInto_65 ⟨Nat.zero_le _, Nat.zero_le _⟩) (by decide) (fun z u H locs hpost hP hD hS => ?_)
        subst hpost
        have hP : va_P D cls [cP h lp ((pl : Nat) : Int), cR cI lp 22 gl, cT t a (((roN lt) : Nat) : Int) (((roK pl) : Nat) : Int) 0 0, cR cI (a 0) 6 q0, cR cI (a 1) 6 q1, cR cI (a 2) 72 q2, cR cI (a 3) 12 (zcp (fun j => (j : Int)) g3 (roN lt))] H := hP
        have hD : va_D (va_A [cP h lp ((pl : Nat) : Int), cR cI lp 22 gl, cT t a n0 k0 d0 v0, cR cI (a 0) 6 g0, cR cI (a 1) 6 g1, cR cI (a 2) 72 g2, cR cI (a 3) 12 g3] sz) [cP h lp ((pl : Nat) : Int), cR cI lp 22 gl, cT t a (((roN lt) : Nat) : Int) (((roK pl) : Nat) : Int) 0 0, cR cI (a 0) 6 q0, cR cI (a 1) 6 q1, cR cI (a 2) 72 q2, cR cI (a 3) 12 (zcp (fun j => (j : Int)) g3 (roN lt))] := hD
        refine W.eq (g2 := F0 m 68 ls [.int (zI (kdB (((lt (3 + 3 * i)) : Nat) : Int)))]) rfl ?_
        refine W.eq (g2 := F0 m 68 ls [.int (zI ((roκ lt i : Nat) : Int))]) (by rw [show ((kdB (((lt (3 + 3 * i)) : Nat) : Int)) : Int) = ((roκ lt i : Nat) : Int) from by exact hk1.1]) ?_
        refine lv_istore (lv' := [(5, .int (zI ((roκ lt i : Nat) : Int))), (4, .int (zI (((3 + 3 * i) : Nat) : Int))), (0, .ref h), (1, .ref t), (2, .int (zI ((roN lt : Nat) : Int))), (3, .int (zI ((i : Nat) : Int)))]) hx hb dX0_readInto_68 hl (by decide) rfl (fun ls hl => ?_)
        refine lv_aload_n hx hb dX0_readInto_70 rfl (lv_at hl 3 rfl) ?_
        refine lv_iload_n hx hb dX0_readInto_71 rfl (lv_at hl 5 rfl) ?_
        refine lv_iload hx hb dX0_readInto_72 (lv_at hl 0 rfl) ?_
        refine lv_aload_n hx hb dX0_readInto_74 rfl (lv_at hl 2 rfl) ?_
        refine va_get (D := D) (ci := 0) (v := .ref lp) (C := RX0) (T := TX0) (N := 2) hx hb hts inT_X0 hown hE.1 hP 0 rfl rfl 0 (by decide) (hts _ qf_X0_11) (fun _ h9 => h9) rfl dX0_readInto_75 ?_
        refine lv_iload hx hb dX0_readInto_78 (lv_at hl 1 rfl) ?_
        refine lv_iconst (v := zI 1) hx hb dX0_readInto_80 rfl ?_
        refine z_iadd hx hb (((4 + 3 * i) : Nat) : Int) (by omega) dX0_readInto_81 ?_
        refine z_iald hx hb hE hP 1 rfl (4 + 3 * i) (by omega) (by omega) (by first | decide | omega) ((lt (4 + 3 * i) : Nat) : Int) (hgl (4 + 3 * i) (by omega)) dX0_readInto_82 ?_
        refine lv_bipush (v := zI 48) hx hb dX0_readInto_83 (by decide) ?_
        refine z_isub hx hb ((roν lt i : Nat) : Int) (by exact hn1.1) dX0_readInto_85 ?_
        refine zcall_v (wc := [cT t a (((roN lt) : Nat) : Int) (((roK pl) : Nat) : Int) 0 0, cR cI (a 0) 6 q0, cR cI (a 1) 6 q1, cR cI (a 2) 72 q2]) (wr := [cP h lp ((pl : Nat) : Int), cR cI lp 22 gl, cR cI (a 3) 12 (zcp (fun j => (j : Int)) g3 (roN lt))]) (rest := []) hE hP hD hS hA [2, 3, 4, 5] [0, 1, 6] [0, 1, 3, 4, 5, 6, 2] rfl rfl (by decide) (by decide) (by decide) (fun (u : (Nat → Int)) => [cP h lp ((pl : Nat) : Int), cR cI lp 22 gl, cT t a (((roN lt) : Nat) : Int) (((roK pl) : Nat) : Int) 0 0, cR cI (a 0) 6 (zup q0 i (((roκ lt i) : Nat) : Int)), cR cI (a 1) 6 (zup q1 i (((roν lt i) : Nat) : Int)), cR cI (a 2) 72 u, cR cI (a 3) 12 (zcp (fun j => (j : Int)) g3 (roN lt))]) (fun u => rfl) (fun hPc hDc => zrunVN (As := [.int (zI ((i : Nat) : Int)), .int (zI ((roκ lt i : Nat) : Int)), .int (zI ((roν lt i : Nat) : Int))]) (rest := []) (q0 := 0) (ci := 1) K k_X1_setStep nk_X0_51 ⟨⟨rfl, rfl⟩, ⟨Nat.le_of_ble_eq_true rfl, Nat.le_of_ble_eq_true rfl⟩⟩ rfl rfl hPc hDc (c_X1_setStep l D cI t a (roN lt) (roK pl) 0 0 q0 q1 q2 i (roκ lt i) (roν lt i) (by first | assumption | omega) (by first | assumption | omega) (by first | assumption | omega) (by first | assumption | omega) _) rfl hl.1 rfl (Nat.le_of_ble_eq_true rfl) dX0_readInto_86 ⟨Nat.zero_le _, Nat.zero_le _⟩) (by decide) (fun u H locs hpost hP hD hS => ?_)
        obtain ⟨o_1, hu⟩ : ∃ z, z = u := ⟨_, rfl⟩
        subst hu
        obtain ⟨ho2_86, ho3_86⟩ := hpost
        have ho2_86 : ∀ j, j < (roN lt) → o_1 (i * 12 + j) = ((mv (roN lt) (roκ lt i) (roν lt i) j : Nat) : Int) := ho2_86
        have ho3_86 : ∀ j, (j < i * 12 ∨ i * 12 + (roN lt) ≤ j) → o_1 j = q2 j := ho3_86
        have hP : va_P D cls [cP h lp ((pl : Nat) : Int), cR cI lp 22 gl, cT t a (((roN lt) : Nat) : Int) (((roK pl) : Nat) : Int) 0 0, cR cI (a 0) 6 (zup q0 i (((roκ lt i) : Nat) : Int)), cR cI (a 1) 6 (zup q1 i (((roν lt i) : Nat) : Int)), cR cI (a 2) 72 o_1, cR cI (a 3) 12 (zcp (fun j => (j : Int)) g3 (roN lt))] H := hP
        have hD : va_D (va_A [cP h lp ((pl : Nat) : Int), cR cI lp 22 gl, cT t a n0 k0 d0 v0, cR cI (a 0) 6 g0, cR cI (a 1) 6 g1, cR cI (a 2) 72 g2, cR cI (a 3) 12 g3] sz) [cP h lp ((pl : Nat) : Int), cR cI lp 22 gl, cT t a (((roN lt) : Nat) : Int) (((roK pl) : Nat) : Int) 0 0, cR cI (a 0) 6 (zup q0 i (((roκ lt i) : Nat) : Int)), cR cI (a 1) 6 (zup q1 i (((roν lt i) : Nat) : Int)), cR cI (a 2) 72 o_1, cR cI (a 3) 12 (zcp (fun j => (j : Int)) g3 (roN lt))] := hD
        refine z_iinc (k := 5) (lv' := [(3, .int (zI (((i + 1) : Nat) : Int))), (5, .int (zI ((roκ lt i : Nat) : Int))), (4, .int (zI (((3 + 3 * i) : Nat) : Int))), (0, .ref h), (1, .ref t), (2, .int (zI ((roN lt : Nat) : Int)))]) hx hb (((i + 1) : Nat) : Int) (by omega) dX0_readInto_89 hl rfl (by decide) rfl (fun ls hl => ?_)
        refine lv_goto (tgt := 40) hx hb dX0_readInto_92 (by decide) ?_
        exact ih_40 (i + 1) (zup q0 i (((roκ lt i) : Nat) : Int)) (zup q1 i (((roν lt i) : Nat) : Int)) o_1 (by omega) (by omega) (by intro j hj; rcases Nat.lt_or_ge j i with h1 | h1; rw [zup_n (by omega)]; exact hq0 j h1; rw [show j = i by omega, zup_s]) (by intro j hj; rcases Nat.lt_or_ge j i with h1 | h1; rw [zup_n (by omega)]; exact hq1 j h1; rw [show j = i by omega, zup_s]) (by intro q c hq hc; rcases Nat.lt_or_ge q i with h1 | h1; rw [ho3_86 _ (by omega)]; exact hq2 q c h1 hc; rw [show q = i by omega]; exact ho2_86 c hc) _ _ _ hP hD hS (lv_sub hl [3, 4, 5, 0] rfl)
  exact cut_40 (roK pl - 0 + 1) 0 g0 g1 g2 (Nat.lt_succ_self _) (by omega) (by intro j hj; omega) (by intro j hj; omega) (by intro q c hq; omega) _ _ _ hP hD hS (lv_sub hl [2, 3, 1, 0] rfl)
set_option maxHeartbeats 4000000 in
set_option maxRecDepth 100000 in
theorem c_X3_fault (l : Launch) (D : va_G) (cI : ClassId) (aK aV : Nat) (x : Nat) (b : Nat → Nat) (ik rr hc : Int) (lp pl : Nat) (gl : Nat → Int) (lt : Nat → Nat) (hL : LI pl gl lt) : zMiX l yX3_fault cX3_fault 1 (some .int) ({ frames := 7, cells := 0, slots := 0, locals := 155 }) D cI aK aV [.ref x] [cX x b ik rr hc, cP (b 0) lp ((pl : Nat) : Int), cR cI lp 22 gl] (fun (z : Int) (u : Unit) => z = (((fFau pl lt) : Nat) : Int)) (fun (u : Unit) => [cX x b ik rr hc, cP (b 0) lp ((pl : Nat) : Int), cR cI lp 22 gl]) := by
  intro sz
  refine zstartX rfl (by decide) (Nat.le_of_ble_eq_true rfl) ?_
  intro p e s m below meth c ls K hnm hsz hP hD hS hl hX
  generalize hargs : ([.ref x] : List Value).toArray = args at K ⊢
  generalize hQf : MQ below _ args s _ _ _ = Qf
  have K : zK p s m args meth c cX3_fault 1 RX3 (some .int) D cI := K
  obtain ⟨hx, hb, hml, hown, hts, hE, -, -⟩ := id K
  have hA := zhA (ws0 := [cX x b ik rr hc, cP (b 0) lp ((pl : Nat) : Int), cR cI lp 22 gl]) hsz
  have hl : lv_has ls 1 [(0, .ref x)] := hl
  refine lv_aload_n hx hb dX3_fault_0 rfl (lv_at hl 0 rfl) ?_
  refine va_get (D := D) (ci := 3) (v := .ref (b 0)) (C := RX3) (T := TX3) (N := 10) hx hb hts inT_X3 hown hE.1 hP 0 rfl rfl 0 (by decide) (hts _ qf_X3_10) (fun _ h9 => h9) rfl dX3_fault_1 ?_
  refine zcall_i (wc := [cP (b 0) lp ((pl : Nat) : Int), cR cI lp 22 gl]) (wr := [cX x b ik rr hc]) (rest := []) hE hP hD hS hA [1, 2] [0] [0, 1, 2] rfl rfl (by decide) (by decide) (by decide) (fun (u : Unit) => [cX x b ik rr hc, cP (b 0) lp ((pl : Nat) : Int), cR cI lp 22 gl]) (fun u => rfl) (fun hPc hDc => zrunVXN (As := []) (rest := []) (q0 := 0) (ci := 0) K k_X0_firstWrong nk_X3_55 ⟨⟨rfl, rfl⟩, ⟨Nat.le_of_ble_eq_true rfl, Nat.le_of_ble_eq_true rfl⟩⟩ rfl rfl hX hS (va_free hD hS hA [1, 2] rfl) hPc hDc (c_X0_firstWrong l D cI aK aV (b 0) lp pl gl lt (by first | assumption | omega) _) rfl hl.1 rfl (Nat.le_of_ble_eq_true rfl) dX3_fault_4 ⟨Nat.zero_le _, Nat.zero_le _⟩) (by decide) (fun z u H locs hpost hP hD hS => ?_)
  subst hpost
  have hP : va_P D cls [cX x b ik rr hc, cP (b 0) lp ((pl : Nat) : Int), cR cI lp 22 gl] H := hP
  have hD : va_D (va_A [cX x b ik rr hc, cP (b 0) lp ((pl : Nat) : Int), cR cI lp 22 gl] sz) [cX x b ik rr hc, cP (b 0) lp ((pl : Nat) : Int), cR cI lp 22 gl] := hD
  refine W.eq (g2 := F0 m 7 ls [.int (zI (((fFau pl lt) : Nat) : Int))]) rfl ?_
  rw [← hQf]
  exact z_iret K hS () (by first | rfl | omega | (split <;> omega)) hP hD dX3_fault_7
set_option maxHeartbeats 4000000 in
set_option maxRecDepth 100000 in
theorem c_X3_routine (l : Launch) (D : va_G) (cI : ClassId) (aK aV : Nat) (x : Nat) (b : Nat → Nat) (ik rr hc : Int) (lp pl : Nat) (gl : Nat → Int) (lt : Nat → Nat) (aN : Nat → Nat) (n k d v : Nat) (g0 g1 g2 g3 : Nat → Int) (hL : LI pl gl lt) : zMiX l yX3_routine cX3_routine 1 (some .int) ({ frames := 8, cells := 0, slots := 0, locals := 176 }) D cI aK aV [.ref x] [cX x b ik rr hc, cP (b 0) lp ((pl : Nat) : Int), cR cI lp 22 gl, cT (b 1) aN ((n : Nat) : Int) ((k : Nat) : Int) ((d : Nat) : Int) ((v : Nat) : Int), cR cI (aN 0) 6 g0, cR cI (aN 1) 6 g1, cR cI (aN 2) 72 g2, cR cI (aN 3) 12 g3] (fun (z : Int) (u : (Int) × (Int) × (Nat) × (Nat) × (Nat) × (Nat) × (Nat) × (Nat → Int) × (Nat → Int) × (Nat → Int) × (Nat → Int)) => (z = (if rOk pl lt then ((roK pl : Nat) : Int) else -103)) ∧ (¬ rOk pl lt → u.1 = ik ∧ u.2.1 = rr ∧ u.2.2.1 = pl ∧ u.2.2.2.1 = n ∧ u.2.2.2.2.1 = k ∧ u.2.2.2.2.2.1 = d ∧ u.2.2.2.2.2.2.1 = v ∧ u.2.2.2.2.2.2.2.1 = g0 ∧ u.2.2.2.2.2.2.2.2.1 = g1 ∧ u.2.2.2.2.2.2.2.2.2.1 = g2 ∧ u.2.2.2.2.2.2.2.2.2.2 = g3) ∧ (rOk pl lt → u.1 = 0 ∧ u.2.1 = rr + 1 ∧ u.2.2.1 = 0 ∧ u.2.2.2.1 = roN lt ∧ u.2.2.2.2.1 = roK pl ∧ u.2.2.2.2.2.1 = 0 ∧ u.2.2.2.2.2.2.1 = 0 ∧ ∀ (g4 g5 g6 : Nat → Int) (ss sf st : Nat → Nat), TI (roN lt) (roK pl) 0 0 u.2.2.2.2.2.2.2.1 u.2.2.2.2.2.2.2.2.1 u.2.2.2.2.2.2.2.2.2.1 u.2.2.2.2.2.2.2.2.2.2 g4 g5 g6 (roκ lt) (roν lt) (fun j => j) ss sf st)) (fun (u : (Int) × (Int) × (Nat) × (Nat) × (Nat) × (Nat) × (Nat) × (Nat → Int) × (Nat → Int) × (Nat → Int) × (Nat → Int)) => [cX x b u.1 u.2.1 hc, cP (b 0) lp ((u.2.2.1 : Nat) : Int), cR cI lp 22 gl, cT (b 1) aN ((u.2.2.2.1 : Nat) : Int) ((u.2.2.2.2.1 : Nat) : Int) ((u.2.2.2.2.2.1 : Nat) : Int) ((u.2.2.2.2.2.2.1 : Nat) : Int), cR cI (aN 0) 6 u.2.2.2.2.2.2.2.1, cR cI (aN 1) 6 u.2.2.2.2.2.2.2.2.1, cR cI (aN 2) 72 u.2.2.2.2.2.2.2.2.2.1, cR cI (aN 3) 12 u.2.2.2.2.2.2.2.2.2.2]) := by
  intro sz
  refine zstartX rfl (by decide) (Nat.le_of_ble_eq_true rfl) ?_
  intro p e s m below meth c ls K hnm hsz hP hD hS hl hX
  generalize hargs : ([.ref x] : List Value).toArray = args at K ⊢
  generalize hQf : MQ below _ args s _ _ _ = Qf
  have K : zK p s m args meth c cX3_routine 1 RX3 (some .int) D cI := K
  obtain ⟨hx, hb, hml, hown, hts, hE, -, -⟩ := id K
  have hA := zhA (ws0 := [cX x b ik rr hc, cP (b 0) lp ((pl : Nat) : Int), cR cI lp 22 gl, cT (b 1) aN ((n : Nat) : Int) ((k : Nat) : Int) ((d : Nat) : Int) ((v : Nat) : Int), cR cI (aN 0) 6 g0, cR cI (aN 1) 6 g1, cR cI (aN 2) 72 g2, cR cI (aN 3) 12 g3]) hsz
  have hl : lv_has ls 1 [(0, .ref x)] := hl
  refine lv_aload_n hx hb dX3_routine_0 rfl (lv_at hl 0 rfl) ?_
  refine va_get (D := D) (ci := 3) (v := .ref (b 0)) (C := RX3) (T := TX3) (N := 10) hx hb hts inT_X3 hown hE.1 hP 0 rfl rfl 0 (by decide) (hts _ qf_X3_10) (fun _ h9 => h9) rfl dX3_routine_1 ?_
  refine zcall_i (wc := [cP (b 0) lp ((pl : Nat) : Int), cR cI lp 22 gl]) (wr := [cX x b ik rr hc, cT (b 1) aN ((n : Nat) : Int) ((k : Nat) : Int) ((d : Nat) : Int) ((v : Nat) : Int), cR cI (aN 0) 6 g0, cR cI (aN 1) 6 g1, cR cI (aN 2) 72 g2, cR cI (aN 3) 12 g3]) (rest := []) hE hP hD hS hA [1, 2] [0, 3, 4, 5, 6, 7] [0, 6, 7, 1, 2, 3, 4, 5] rfl rfl (by decide) (by decide) (by decide) (fun (u : Unit) => [cX x b ik rr hc, cP (b 0) lp ((pl : Nat) : Int), cR cI lp 22 gl, cT (b 1) aN ((n : Nat) : Int) ((k : Nat) : Int) ((d : Nat) : Int) ((v : Nat) : Int), cR cI (aN 0) 6 g0, cR cI (aN 1) 6 g1, cR cI (aN 2) 72 g2, cR cI (aN 3) 12 g3]) (fun u => rfl) (fun hPc hDc => zrunVXN (As := []) (rest := []) (q0 := 0) (ci := 0) K k_X0_isRoutine nk_X3_58 ⟨⟨rfl, rfl⟩, ⟨Nat.le_of_ble_eq_true rfl, Nat.le_of_ble_eq_true rfl⟩⟩ rfl rfl hX hS (va_free hD hS hA [1, 2] rfl) hPc hDc (c_X0_isRoutine l D cI aK aV (b 0) lp pl gl lt (by first | assumption | omega) _) rfl hl.1 rfl (Nat.le_of_ble_eq_true rfl) dX3_routine_4 ⟨Nat.zero_le _, Nat.zero_le _⟩) (by decide) (fun z u H locs hpost hP hD hS => ?_)
  subst hpost
  have hP : va_P D cls [cX x b ik rr hc, cP (b 0) lp ((pl : Nat) : Int), cR cI lp 22 gl, cT (b 1) aN ((n : Nat) : Int) ((k : Nat) : Int) ((d : Nat) : Int) ((v : Nat) : Int), cR cI (aN 0) 6 g0, cR cI (aN 1) 6 g1, cR cI (aN 2) 72 g2, cR cI (aN 3) 12 g3] H := hP
  have hD : va_D (va_A [cX x b ik rr hc, cP (b 0) lp ((pl : Nat) : Int), cR cI lp 22 gl, cT (b 1) aN ((n : Nat) : Int) ((k : Nat) : Int) ((d : Nat) : Int) ((v : Nat) : Int), cR cI (aN 0) 6 g0, cR cI (aN 1) 6 g1, cR cI (aN 2) 72 g2, cR cI (aN 3) 12 g3] sz) [cX x b ik rr hc, cP (b 0) lp ((pl : Nat) : Int), cR cI lp 22 gl, cT (b 1) aN ((n : Nat) : Int) ((k : Nat) : Int) ((d : Nat) : Int) ((v : Nat) : Int), cR cI (aN 0) 6 g0, cR cI (aN 1) 6 g1, cR cI (aN 2) 72 g2, cR cI (aN 3) 12 g3] := hD
  refine W.eq (g2 := F0 m 7 ls [.int (zI (b01 (rOk pl lt)))]) rfl ?_
  refine z_if_ne (tgt := 13) hx hb (by have := b01_r (rOk pl lt); omega) dX3_routine_7 (by decide) (fun c_7 => ?_) (fun c_7 => ?_)
  · have b_7 := b01_ne c_7
    have hrk := rOk_k b_7
    refine lv_aload_n hx hb dX3_routine_13 rfl (lv_at hl 0 rfl) ?_
    refine va_get (D := D) (ci := 3) (v := .ref (b 0)) (C := RX3) (T := TX3) (N := 10) hx hb hts inT_X3 hown hE.1 hP 0 rfl rfl 0 (by decide) (hts _ qf_X3_10) (fun _ h9 => h9) rfl dX3_routine_14 ?_
    refine lv_aload_n hx hb dX3_routine_17 rfl (lv_at hl 0 rfl) ?_
    refine va_get (D := D) (ci := 3) (v := .ref (b 1)) (C := RX3) (T := TX3) (N := 10) hx hb hts inT_X3 hown hE.1 hP 0 rfl rfl 1 (by decide) (hts _ qf_X3_19) (fun _ h9 => h9) rfl dX3_routine_18 ?_
    refine zcall_v (wc := [cP (b 0) lp ((pl : Nat) : Int), cR cI lp 22 gl, cT (b 1) aN ((n : Nat) : Int) ((k : Nat) : Int) ((d : Nat) : Int) ((v : Nat) : Int), cR cI (aN 0) 6 g0, cR cI (aN 1) 6 g1, cR cI (aN 2) 72 g2, cR cI (aN 3) 12 g3]) (wr := [cX x b ik rr hc]) (rest := []) hE hP hD hS hA [1, 2, 3, 4, 5, 6, 7] [0] [0, 1, 2, 3, 4, 5, 6, 7] rfl rfl (by decide) (by decide) (by decide) (fun (u : (Nat → Int) × (Nat → Int) × (Nat → Int) × (Nat → Int)) => [cX x b ik rr hc, cP (b 0) lp ((pl : Nat) : Int), cR cI lp 22 gl, cT (b 1) aN (((roN lt) : Nat) : Int) (((roK pl) : Nat) : Int) 0 0, cR cI (aN 0) 6 u.1, cR cI (aN 1) 6 u.2.1, cR cI (aN 2) 72 u.2.2.1, cR cI (aN 3) 12 u.2.2.2]) (fun u => rfl) (fun hPc hDc => zrunVXN (As := [.ref (b 1)]) (rest := []) (q0 := 0) (ci := 0) K k_X0_readInto nk_X3_62 ⟨⟨rfl, rfl⟩, ⟨Nat.le_of_ble_eq_true rfl, Nat.le_of_ble_eq_true rfl⟩⟩ rfl rfl hX hS (va_free hD hS hA [1, 2, 3, 4, 5, 6, 7] rfl) hPc hDc (c_X0_readInto l D cI aK aV (b 0) lp pl gl lt (b 1) aN ((n : Nat) : Int) ((k : Nat) : Int) ((d : Nat) : Int) ((v : Nat) : Int) g0 g1 g2 g3 (by first | assumption | omega) b_7 _) rfl hl.1 rfl (Nat.le_of_ble_eq_true rfl) dX3_routine_21 ⟨Nat.zero_le _, Nat.zero_le _⟩) (by decide) (fun u H locs hpost hP hD hS => ?_)
    obtain ⟨o_1, o_2, o_3, o_4⟩ := u
    have hTI_21 := hpost
    have hTI_21 : ∀ (g4 g5 g6 : Nat → Int) (ss sf st : Nat → Nat), TI (roN lt) (roK pl) 0 0 o_1 o_2 o_3 o_4 g4 g5 g6 (roκ lt) (roν lt) (fun j => j) ss sf st := hTI_21
    have hP : va_P D cls [cX x b ik rr hc, cP (b 0) lp ((pl : Nat) : Int), cR cI lp 22 gl, cT (b 1) aN (((roN lt) : Nat) : Int) (((roK pl) : Nat) : Int) 0 0, cR cI (aN 0) 6 o_1, cR cI (aN 1) 6 o_2, cR cI (aN 2) 72 o_3, cR cI (aN 3) 12 o_4] H := hP
    have hD : va_D (va_A [cX x b ik rr hc, cP (b 0) lp ((pl : Nat) : Int), cR cI lp 22 gl, cT (b 1) aN ((n : Nat) : Int) ((k : Nat) : Int) ((d : Nat) : Int) ((v : Nat) : Int), cR cI (aN 0) 6 g0, cR cI (aN 1) 6 g1, cR cI (aN 2) 72 g2, cR cI (aN 3) 12 g3] sz) [cX x b ik rr hc, cP (b 0) lp ((pl : Nat) : Int), cR cI lp 22 gl, cT (b 1) aN (((roN lt) : Nat) : Int) (((roK pl) : Nat) : Int) 0 0, cR cI (aN 0) 6 o_1, cR cI (aN 1) 6 o_2, cR cI (aN 2) 72 o_3, cR cI (aN 3) 12 o_4] := hD
    refine lv_aload_n hx hb dX3_routine_24 rfl (lv_at hl 0 rfl) ?_
    refine va_get (D := D) (ci := 3) (v := .ref (b 0)) (C := RX3) (T := TX3) (N := 10) hx hb hts inT_X3 hown hE.1 hP 0 rfl rfl 0 (by decide) (hts _ qf_X3_10) (fun _ h9 => h9) rfl dX3_routine_25 ?_
    refine zcall_i (wc := [cP (b 0) lp ((pl : Nat) : Int)]) (wr := [cX x b ik rr hc, cR cI lp 22 gl, cT (b 1) aN (((roN lt) : Nat) : Int) (((roK pl) : Nat) : Int) 0 0, cR cI (aN 0) 6 o_1, cR cI (aN 1) 6 o_2, cR cI (aN 2) 72 o_3, cR cI (aN 3) 12 o_4]) (rest := []) hE hP hD hS hA [1] [0, 2, 3, 4, 5, 6, 7] [0, 7, 1, 2, 3, 4, 5, 6] rfl rfl (by decide) (by decide) (by decide) (fun (u : Unit) => [cX x b ik rr hc, cP (b 0) lp 0, cR cI lp 22 gl, cT (b 1) aN (((roN lt) : Nat) : Int) (((roK pl) : Nat) : Int) 0 0, cR cI (aN 0) 6 o_1, cR cI (aN 1) 6 o_2, cR cI (aN 2) 72 o_3, cR cI (aN 3) 12 o_4]) (fun u => rfl) (fun hPc hDc => zrunVN (As := []) (rest := []) (q0 := 0) (ci := 0) K k_X0_clear nk_X3_51 ⟨⟨rfl, rfl⟩, ⟨Nat.le_of_ble_eq_true rfl, Nat.le_of_ble_eq_true rfl⟩⟩ rfl rfl hPc hDc (c_X0_clear l D cI (b 0) lp ((pl : Nat) : Int) _) rfl hl.1 rfl (Nat.le_of_ble_eq_true rfl) dX3_routine_28 ⟨Nat.zero_le _, Nat.zero_le _⟩) (by decide) (fun z u H locs hpost hP hD hS => ?_)
    rw [hpost]
    have hP : va_P D cls [cX x b ik rr hc, cP (b 0) lp 0, cR cI lp 22 gl, cT (b 1) aN (((roN lt) : Nat) : Int) (((roK pl) : Nat) : Int) 0 0, cR cI (aN 0) 6 o_1, cR cI (aN 1) 6 o_2, cR cI (aN 2) 72 o_3, cR cI (aN 3) 12 o_4] H := hP
    have hD : va_D (va_A [cX x b ik rr hc, cP (b 0) lp ((pl : Nat) : Int), cR cI lp 22 gl, cT (b 1) aN ((n : Nat) : Int) ((k : Nat) : Int) ((d : Nat) : Int) ((v : Nat) : Int), cR cI (aN 0) 6 g0, cR cI (aN 1) 6 g1, cR cI (aN 2) 72 g2, cR cI (aN 3) 12 g3] sz) [cX x b ik rr hc, cP (b 0) lp 0, cR cI lp 22 gl, cT (b 1) aN (((roN lt) : Nat) : Int) (((roK pl) : Nat) : Int) 0 0, cR cI (aN 0) 6 o_1, cR cI (aN 1) 6 o_2, cR cI (aN 2) 72 o_3, cR cI (aN 3) 12 o_4] := hD
    refine W.eq (g2 := F0 m 31 ls [.int (zI ((pl : Nat) : Int))]) rfl ?_
    refine lv_pop hx hb dX3_routine_31 rfl ?_
    refine lv_aload_n hx hb dX3_routine_32 rfl (lv_at hl 0 rfl) ?_
    refine lv_iconst (v := zI 0) hx hb dX3_routine_33 rfl ?_
    refine va_put (D := D) (ci := 3) (v := .int (zI 0)) (ty := .boolean) (C := RX3) (T := TX3) (N := 10) hx hb hts inT_X3 tyX3 tyX3_ok nmX3 hown hE.1 hP hD hS 0 rfl rfl 3 (by decide) (hts _ qf_X3_66) (fun _ h9 => h9) rfl (by decide +kernel) (by decide) (by decide) (Nat.le_of_ble_eq_true rfl) dX3_routine_34 (fun H locs hP hD hS => ?_)
    have hP : va_P D cls [cX x b 0 rr hc, cP (b 0) lp 0, cR cI lp 22 gl, cT (b 1) aN (((roN lt) : Nat) : Int) (((roK pl) : Nat) : Int) 0 0, cR cI (aN 0) 6 o_1, cR cI (aN 1) 6 o_2, cR cI (aN 2) 72 o_3, cR cI (aN 3) 12 o_4] H := hP
    have hD : va_D (va_A [cX x b ik rr hc, cP (b 0) lp ((pl : Nat) : Int), cR cI lp 22 gl, cT (b 1) aN ((n : Nat) : Int) ((k : Nat) : Int) ((d : Nat) : Int) ((v : Nat) : Int), cR cI (aN 0) 6 g0, cR cI (aN 1) 6 g1, cR cI (aN 2) 72 g2, cR cI (aN 3) 12 g3] sz) [cX x b 0 rr hc, cP (b 0) lp 0, cR cI lp 22 gl, cT (b 1) aN (((roN lt) : Nat) : Int) (((roK pl) : Nat) : Int) 0 0, cR cI (aN 0) 6 o_1, cR cI (aN 1) 6 o_2, cR cI (aN 2) 72 o_3, cR cI (aN 3) 12 o_4] := hD
    refine lv_aload_n hx hb dX3_routine_37 rfl (lv_at hl 0 rfl) ?_
    refine lv_dup hx hb dX3_routine_38 rfl ?_
    refine va_get (D := D) (ci := 3) (v := .int (zI rr)) (C := RX3) (T := TX3) (N := 10) hx hb hts inT_X3 hown hE.1 hP 0 rfl rfl 4 (by decide) (hts _ qf_X3_70) (fun _ h9 => h9) rfl dX3_routine_39 ?_
    refine lv_iconst (v := zI 1) hx hb dX3_routine_42 rfl ?_
    refine z_iadd hx hb (rr + 1) rfl dX3_routine_43 ?_
    refine va_put (D := D) (ci := 3) (v := .int (zI (rr + 1))) (ty := .int) (C := RX3) (T := TX3) (N := 10) hx hb hts inT_X3 tyX3 tyX3_ok nmX3 hown hE.1 hP hD hS 0 rfl rfl 4 (by decide) (hts _ qf_X3_70) (fun _ h9 => h9) rfl (by decide +kernel) rfl rfl (Nat.le_of_ble_eq_true rfl) dX3_routine_44 (fun H locs hP hD hS => ?_)
    have hP : va_P D cls [cX x b 0 (rr + 1) hc, cP (b 0) lp 0, cR cI lp 22 gl, cT (b 1) aN (((roN lt) : Nat) : Int) (((roK pl) : Nat) : Int) 0 0, cR cI (aN 0) 6 o_1, cR cI (aN 1) 6 o_2, cR cI (aN 2) 72 o_3, cR cI (aN 3) 12 o_4] H := hP
    have hD : va_D (va_A [cX x b ik rr hc, cP (b 0) lp ((pl : Nat) : Int), cR cI lp 22 gl, cT (b 1) aN ((n : Nat) : Int) ((k : Nat) : Int) ((d : Nat) : Int) ((v : Nat) : Int), cR cI (aN 0) 6 g0, cR cI (aN 1) 6 g1, cR cI (aN 2) 72 g2, cR cI (aN 3) 12 g3] sz) [cX x b 0 (rr + 1) hc, cP (b 0) lp 0, cR cI lp 22 gl, cT (b 1) aN (((roN lt) : Nat) : Int) (((roK pl) : Nat) : Int) 0 0, cR cI (aN 0) 6 o_1, cR cI (aN 1) 6 o_2, cR cI (aN 2) 72 o_3, cR cI (aN 3) 12 o_4] := hD
    refine lv_aload_n hx hb dX3_routine_47 rfl (lv_at hl 0 rfl) ?_
    refine va_get (D := D) (ci := 3) (v := .ref (b 1)) (C := RX3) (T := TX3) (N := 10) hx hb hts inT_X3 hown hE.1 hP 0 rfl rfl 1 (by decide) (hts _ qf_X3_19) (fun _ h9 => h9) rfl dX3_routine_48 ?_
    refine va_getN (D := D) (ci := 1) (v := .int (zI (((roK pl) : Nat) : Int))) (C := RX1) (T := TX1) (N := 11) hx hb hts inT_X1 hown hE.1 hP 3 rfl rfl 1 (by decide) (va_Nw.use rfl (hE.2 _ nf_X3_73 rfl)) (fun _ h9 => h9) rfl dX3_routine_51 ?_
    rw [← hQf]
    exact z_iret K hS (0, (rr + 1), 0, (roN lt), (roK pl), 0, 0, o_1, o_2, o_3, o_4) ⟨(by rw [if_pos b_7]), (by (try dsimp only); intro h9; exact absurd b_7 h9), (by (try dsimp only); intro _; exact ⟨rfl, rfl, rfl, rfl, rfl, rfl, rfl, hTI_21⟩)⟩ hP hD dX3_routine_54
  · have b_7 := b01_eq c_7
    refine lv_bipush (v := zI (-103)) hx hb dX3_routine_10 (by decide) ?_
    rw [← hQf]
    exact z_iret K hS (ik, rr, pl, n, k, d, v, g0, g1, g2, g3) ⟨(by rw [if_neg b_7]), (by (try dsimp only); intro _; exact ⟨rfl, rfl, rfl, rfl, rfl, rfl, rfl, rfl, rfl, rfl, rfl⟩), (by (try dsimp only); intro h9; exact absurd h9 b_7)⟩ hP hD dX3_routine_12
set_option maxHeartbeats 4000000 in
set_option maxRecDepth 100000 in
theorem c_X4_isGood (l : Launch) (D : va_G) (cI : ClassId) (h : Nat) (b : Nat → Nat) (pm n k d rr hd sm : Nat) (kr kq ku s0 s1 s2 s3 s4 s5 hs : Int) (gl : Nat → Int) (lt : Nat → Nat) (i0 : Nat) (hL : LI pm gl lt) (hi0 : i0 < pm) (hi2 : i0 ≤ 20) : zMi l yX4_isGood cX4_isGood 3 (some .boolean) ({ frames := 1, cells := 0, slots := 0, locals := 25 }) D cI [.ref h, .int (zI ((i0 : Nat) : Int))] [cM h b ((pm : Nat) : Int) ((n : Nat) : Int) ((k : Nat) : Int) ((d : Nat) : Int) ((rr : Nat) : Int) ((hd : Nat) : Int) ((sm : Nat) : Int) kr kq ku s0 s1 s2 s3 s4 s5 hs, cR cI (b 0) 22 gl] (fun (z : Int) (u : Unit) => z = (b01 (okB lt i0 = true))) (fun (u : Unit) => [cM h b ((pm : Nat) : Int) ((n : Nat) : Int) ((k : Nat) : Int) ((d : Nat) : Int) ((rr : Nat) : Int) ((hd : Nat) : Int) ((sm : Nat) : Int) kr kq ku s0 s1 s2 s3 s4 s5 hs, cR cI (b 0) 22 gl]) := by
  intro sz
  refine zstart rfl (by decide) (Nat.le_of_ble_eq_true rfl) ?_
  intro p e s m below meth c ls K hnm hsz hP hD hS hl
  generalize hargs : ([.ref h, .int (zI ((i0 : Nat) : Int))] : List Value).toArray = args at K ⊢
  generalize hQf : MQ below _ args s _ _ _ = Qf
  have K : zK p s m args meth c cX4_isGood 3 RX4 (some .boolean) D cI := K
  obtain ⟨hx, hb, hml, hown, hts, hE, -, -⟩ := id K
  have hA := zhA (ws0 := [cM h b ((pm : Nat) : Int) ((n : Nat) : Int) ((k : Nat) : Int) ((d : Nat) : Int) ((rr : Nat) : Int) ((hd : Nat) : Int) ((sm : Nat) : Int) kr kq ku s0 s1 s2 s3 s4 s5 hs, cR cI (b 0) 22 gl]) hsz
  have hl : lv_has ls 3 [(0, .ref h), (1, .int (zI ((i0 : Nat) : Int)))] := hl
  obtain ⟨hpl, hgl, hlt⟩ := id hL
  have hl0 := hlt i0 hi0
  have hl1 := hlt 0 (by omega)
  refine lv_aload_n hx hb dX4_isGood_0 rfl (lv_at hl 0 rfl) ?_
  refine va_get (D := D) (ci := 4) (v := .ref (b 0)) (C := RX4) (T := TX4) (N := 32) hx hb hts inT_X4 hown hE.1 hP 0 rfl rfl 0 (by decide) (hts _ qf_X4_7) (fun _ h9 => h9) rfl dX4_isGood_1 ?_
  refine lv_iload_n hx hb dX4_isGood_4 rfl (lv_at hl 1 rfl) ?_
  refine z_iald hx hb hE hP 1 rfl i0 (by omega) (by omega) (by first | decide | omega) ((lt i0 : Nat) : Int) (hgl i0 hi0) dX4_isGood_5 ?_
  refine lv_istore_n (lv' := [(2, .int (zI ((lt i0 : Nat) : Int))), (0, .ref h), (1, .int (zI ((i0 : Nat) : Int)))]) hx hb dX4_isGood_6 rfl hl (by decide) rfl (fun ls hl => ?_)
  refine lv_iload_n hx hb dX4_isGood_7 rfl (lv_at hl 2 rfl) ?_
  rcases (show ((i0 : Nat) : Int) = 0 ∨ ((i0 : Nat) : Int) = 1 ∨ ((i0 : Nat) : Int) = 2 ∨ (((i0 : Nat) : Int) ≠ 0 ∧ ((i0 : Nat) : Int) ≠ 1 ∧ ((i0 : Nat) : Int) ≠ 2) by omega) with c_8 | c_8 | c_8 | c_8
  · refine lv_tableIn (tgt := 36) hx hb dX4_isGood_8 (by rw [zI_toInt (by omega)]; omega) (by rw [zI_toInt (by omega)]; omega) (by rw [zI_toInt (by omega), c_8]; rfl) (by decide) ?_
    refine lv_iload_n hx hb dX4_isGood_36 rfl (lv_at hl 0 rfl) ?_
    refine lv_bipush (v := zI 48) hx hb dX4_isGood_37 (by decide) ?_
    refine z_icmp_eq (tgt := 48) hx hb (by omega) dX4_isGood_39 (by decide) (fun c_39 => ?_) (fun c_39 => ?_)
    · refine lv_iconst (v := zI 1) hx hb dX4_isGood_48 rfl ?_
      refine lv_goto (tgt := 53) hx hb dX4_isGood_49 (by decide) ?_
      rw [← hQf]
      exact z_bret K hS () (by have e9 : i0 = 0 := (by omega); rw [e9, okB_0]; rw [e9] at hl0; (try rw [e9] at c_39); (try rw [e9] at c_45); (try simp only [e9]); first | exact b01_c (by simp; omega) | first | exact (b01_t (by simp; omega)).symm | exact (b01_f (by simp; omega)).symm) (by omega) hP hD dX4_isGood_53
    · refine lv_iload_n hx hb dX4_isGood_42 rfl (lv_at hl 0 rfl) ?_
      refine lv_bipush (v := zI 49) hx hb dX4_isGood_43 (by decide) ?_
      refine z_icmp_ne (tgt := 52) hx hb (by omega) dX4_isGood_45 (by decide) (fun c_45 => ?_) (fun c_45 => ?_)
      · refine lv_iconst (v := zI 0) hx hb dX4_isGood_52 rfl ?_
        rw [← hQf]
        exact z_bret K hS () (by have e9 : i0 = 0 := (by omega); rw [e9, okB_0]; rw [e9] at hl0; (try rw [e9] at c_39); (try rw [e9] at c_45); (try simp only [e9]); first | exact b01_c (by simp; omega) | first | exact (b01_t (by simp; omega)).symm | exact (b01_f (by simp; omega)).symm) (by omega) hP hD dX4_isGood_53
      · refine lv_iconst (v := zI 1) hx hb dX4_isGood_48 rfl ?_
        refine lv_goto (tgt := 53) hx hb dX4_isGood_49 (by decide) ?_
        rw [← hQf]
        exact z_bret K hS () (by have e9 : i0 = 0 := (by omega); rw [e9, okB_0]; rw [e9] at hl0; (try rw [e9] at c_39); (try rw [e9] at c_45); (try simp only [e9]); first | exact b01_c (by simp; omega) | first | exact (b01_t (by simp; omega)).symm | exact (b01_f (by simp; omega)).symm) (by omega) hP hD dX4_isGood_53
  · refine lv_tableIn (tgt := 54) hx hb dX4_isGood_8 (by rw [zI_toInt (by omega)]; omega) (by rw [zI_toInt (by omega)]; omega) (by rw [zI_toInt (by omega), c_8]; rfl) (by decide) ?_
    refine lv_aload_n hx hb dX4_isGood_54 rfl (lv_at hl 1 rfl) ?_
    refine va_get (D := D) (ci := 4) (v := .ref (b 0)) (C := RX4) (T := TX4) (N := 32) hx hb hts inT_X4 hown hE.1 hP 0 rfl rfl 0 (by decide) (hts _ qf_X4_7) (fun _ h9 => h9) rfl dX4_isGood_55 ?_
    refine lv_iconst (v := zI 0) hx hb dX4_isGood_58 rfl ?_
    refine z_iald hx hb hE hP 1 rfl 0 (by omega) (by omega) (by first | decide | omega) ((lt 0 : Nat) : Int) (hgl 0 (by omega)) dX4_isGood_59 ?_
    refine lv_bipush (v := zI 48) hx hb dX4_isGood_60 (by decide) ?_
    refine z_icmp_ne (tgt := 79) hx hb (by omega) dX4_isGood_62 (by decide) (fun c_62 => ?_) (fun c_62 => ?_)
    · refine lv_iload_n hx hb dX4_isGood_79 rfl (lv_at hl 0 rfl) ?_
      refine z_i2l hx hb (by omega) dX4_isGood_80 ?_
      refine lv_ldc2 (v := zL 48) hx hb hown (hts _ qk_X4_72) dX4_isGood_81 ?_
      refine lv_ldc2 (v := zL 50) hx hb hown (hts _ qk_X4_68) dX4_isGood_84 ?_
      refine zcall_i (wc := []) (wr := [cM h b ((pm : Nat) : Int) ((n : Nat) : Int) ((k : Nat) : Int) ((d : Nat) : Int) ((rr : Nat) : Int) ((hd : Nat) : Int) ((sm : Nat) : Int) kr kq ku s0 s1 s2 s3 s4 s5 hs, cR cI (b 0) 22 gl]) (rest := []) hE hP hD hS hA [] [0, 1] [0, 1] rfl rfl (by decide) (by decide) (by decide) (fun (u : Unit) => [cM h b ((pm : Nat) : Int) ((n : Nat) : Int) ((k : Nat) : Int) ((d : Nat) : Int) ((rr : Nat) : Int) ((hd : Nat) : Int) ((sm : Nat) : Int) kr kq ku s0 s1 s2 s3 s4 s5 hs, cR cI (b 0) 22 gl]) (fun u => rfl) (fun hPc hDc => zrunS (As := [.long (zL ((lt i0 : Nat) : Int)), .long (zL 48), .long (zL 50)]) (rest := []) K k_X4_in qm_X4_61 ⟨⟨rfl, rfl⟩, ⟨Nat.le_of_ble_eq_true rfl, Nat.le_of_ble_eq_true rfl⟩⟩ hPc hDc (c_X4_in l D cI ((lt i0 : Nat) : Int) 48 50 (by first | assumption | omega) (by first | assumption | omega) (by first | assumption | omega) _) rfl hl.1 rfl (Nat.le_of_ble_eq_true rfl) dX4_isGood_87 ⟨Nat.zero_le _, Nat.zero_le _⟩) (by decide) (fun z u H locs hpost hP hD hS => ?_)
      subst hpost
      have hP : va_P D cls [cM h b ((pm : Nat) : Int) ((n : Nat) : Int) ((k : Nat) : Int) ((d : Nat) : Int) ((rr : Nat) : Int) ((hd : Nat) : Int) ((sm : Nat) : Int) kr kq ku s0 s1 s2 s3 s4 s5 hs, cR cI (b 0) 22 gl] H := hP
      have hD : va_D (va_A [cM h b ((pm : Nat) : Int) ((n : Nat) : Int) ((k : Nat) : Int) ((d : Nat) : Int) ((rr : Nat) : Int) ((hd : Nat) : Int) ((sm : Nat) : Int) kr kq ku s0 s1 s2 s3 s4 s5 hs, cR cI (b 0) 22 gl] sz) [cM h b ((pm : Nat) : Int) ((n : Nat) : Int) ((k : Nat) : Int) ((d : Nat) : Int) ((rr : Nat) : Int) ((hd : Nat) : Int) ((sm : Nat) : Int) kr kq ku s0 s1 s2 s3 s4 s5 hs, cR cI (b 0) 22 gl] := hD
      refine W.eq (g2 := F0 m 90 ls [.int (zI (b01 (48 ≤ ((lt i0 : Nat) : Int) ∧ ((lt i0 : Nat) : Int) ≤ 50)))]) rfl ?_
      rw [← hQf]
      exact z_bret K hS () (by have e9 : i0 = 1 := (by omega); rw [e9, okB_1]; rw [e9] at hl0; (try simp only [e9]); first | (rw [if_pos (show lt 0 = 48 by omega)]; first | exact b01_c (by simp; omega) | first | exact (b01_t (by simp; omega)).symm | exact (b01_f (by simp; omega)).symm) | (rw [if_neg (show ¬ lt 0 = 48 by omega)]; first | exact b01_c (by simp; omega) | first | exact (b01_t (by simp; omega)).symm | exact (b01_f (by simp; omega)).symm)) (by exact b01_01 _) hP hD dX4_isGood_90
    · refine lv_iload_n hx hb dX4_isGood_65 rfl (lv_at hl 0 rfl) ?_
      refine z_i2l hx hb (by omega) dX4_isGood_66 ?_
      refine lv_ldc2 (v := zL 50) hx hb hown (hts _ qk_X4_68) dX4_isGood_67 ?_
      refine lv_ldc2 (v := zL 57) hx hb hown (hts _ qk_X4_70) dX4_isGood_70 ?_
      refine zcall_i (wc := []) (wr := [cM h b ((pm : Nat) : Int) ((n : Nat) : Int) ((k : Nat) : Int) ((d : Nat) : Int) ((rr : Nat) : Int) ((hd : Nat) : Int) ((sm : Nat) : Int) kr kq ku s0 s1 s2 s3 s4 s5 hs, cR cI (b 0) 22 gl]) (rest := []) hE hP hD hS hA [] [0, 1] [0, 1] rfl rfl (by decide) (by decide) (by decide) (fun (u : Unit) => [cM h b ((pm : Nat) : Int) ((n : Nat) : Int) ((k : Nat) : Int) ((d : Nat) : Int) ((rr : Nat) : Int) ((hd : Nat) : Int) ((sm : Nat) : Int) kr kq ku s0 s1 s2 s3 s4 s5 hs, cR cI (b 0) 22 gl]) (fun u => rfl) (fun hPc hDc => zrunS (As := [.long (zL ((lt i0 : Nat) : Int)), .long (zL 50), .long (zL 57)]) (rest := []) K k_X4_in qm_X4_61 ⟨⟨rfl, rfl⟩, ⟨Nat.le_of_ble_eq_true rfl, Nat.le_of_ble_eq_true rfl⟩⟩ hPc hDc (c_X4_in l D cI ((lt i0 : Nat) : Int) 50 57 (by first | assumption | omega) (by first | assumption | omega) (by first | assumption | omega) _) rfl hl.1 rfl (Nat.le_of_ble_eq_true rfl) dX4_isGood_73 ⟨Nat.zero_le _, Nat.zero_le _⟩) (by decide) (fun z u H locs hpost hP hD hS => ?_)
      subst hpost
      have hP : va_P D cls [cM h b ((pm : Nat) : Int) ((n : Nat) : Int) ((k : Nat) : Int) ((d : Nat) : Int) ((rr : Nat) : Int) ((hd : Nat) : Int) ((sm : Nat) : Int) kr kq ku s0 s1 s2 s3 s4 s5 hs, cR cI (b 0) 22 gl] H := hP
      have hD : va_D (va_A [cM h b ((pm : Nat) : Int) ((n : Nat) : Int) ((k : Nat) : Int) ((d : Nat) : Int) ((rr : Nat) : Int) ((hd : Nat) : Int) ((sm : Nat) : Int) kr kq ku s0 s1 s2 s3 s4 s5 hs, cR cI (b 0) 22 gl] sz) [cM h b ((pm : Nat) : Int) ((n : Nat) : Int) ((k : Nat) : Int) ((d : Nat) : Int) ((rr : Nat) : Int) ((hd : Nat) : Int) ((sm : Nat) : Int) kr kq ku s0 s1 s2 s3 s4 s5 hs, cR cI (b 0) 22 gl] := hD
      refine W.eq (g2 := F0 m 76 ls [.int (zI (b01 (50 ≤ ((lt i0 : Nat) : Int) ∧ ((lt i0 : Nat) : Int) ≤ 57)))]) rfl ?_
      refine lv_goto (tgt := 90) hx hb dX4_isGood_76 (by decide) ?_
      rw [← hQf]
      exact z_bret K hS () (by have e9 : i0 = 1 := (by omega); rw [e9, okB_1]; rw [e9] at hl0; (try simp only [e9]); first | (rw [if_pos (show lt 0 = 48 by omega)]; first | exact b01_c (by simp; omega) | first | exact (b01_t (by simp; omega)).symm | exact (b01_f (by simp; omega)).symm) | (rw [if_neg (show ¬ lt 0 = 48 by omega)]; first | exact b01_c (by simp; omega) | first | exact (b01_t (by simp; omega)).symm | exact (b01_f (by simp; omega)).symm)) (by exact b01_01 _) hP hD dX4_isGood_90
  · refine lv_tableIn (tgt := 91) hx hb dX4_isGood_8 (by rw [zI_toInt (by omega)]; omega) (by rw [zI_toInt (by omega)]; omega) (by rw [zI_toInt (by omega), c_8]; rfl) (by decide) ?_
    refine lv_iload_n hx hb dX4_isGood_91 rfl (lv_at hl 0 rfl) ?_
    refine lv_bipush (v := zI 59) hx hb dX4_isGood_92 (by decide) ?_
    refine z_icmp_ne (tgt := 101) hx hb (by omega) dX4_isGood_94 (by decide) (fun c_94 => ?_) (fun c_94 => ?_)
    · refine lv_iconst (v := zI 0) hx hb dX4_isGood_101 rfl ?_
      rw [← hQf]
      exact z_bret K hS () (by have e9 : i0 = 2 := (by omega); rw [e9, okB_2]; rw [e9] at hl0; (try rw [e9] at c_94); (try simp only [e9]); first | exact b01_c (by simp; omega) | first | exact (b01_t (by simp; omega)).symm | exact (b01_f (by simp; omega)).symm) (by omega) hP hD dX4_isGood_102
    · refine lv_iconst (v := zI 1) hx hb dX4_isGood_97 rfl ?_
      refine lv_goto (tgt := 102) hx hb dX4_isGood_98 (by decide) ?_
      rw [← hQf]
      exact z_bret K hS () (by have e9 : i0 = 2 := (by omega); rw [e9, okB_2]; rw [e9] at hl0; (try rw [e9] at c_94); (try simp only [e9]); first | exact b01_c (by simp; omega) | first | exact (b01_t (by simp; omega)).symm | exact (b01_f (by simp; omega)).symm) (by omega) hP hD dX4_isGood_102
  · refine lv_tableOut (tgt := 103) hx hb dX4_isGood_8 (by rw [zI_toInt (by omega)]; omega) (by decide) ?_
    obtain ⟨r3, hr3⟩ : ∃ r, r = i0 % 3 := ⟨_, rfl⟩
    refine lv_iload_n hx hb dX4_isGood_103 rfl (lv_at hl 2 rfl) ?_
    refine lv_iconst (v := zI 3) hx hb dX4_isGood_104 rfl ?_
    refine z_irem hx hb ((r3 : Nat) : Int) (by omega) (by rw [hr3]; rfl) dX4_isGood_105 ?_
    rcases (show ((r3 : Nat) : Int) = 0 ∨ ((r3 : Nat) : Int) = 1 ∨ (((r3 : Nat) : Int) ≠ 0 ∧ ((r3 : Nat) : Int) ≠ 1) by omega) with c_106 | c_106 | c_106
    · refine lv_lookup (off := 26) (tgt := 132) hx hb dX4_isGood_106 (by decide) (by rw [zI_toInt (by omega), c_106]; first | done | rfl | decide) (by decide) ?_
      refine lv_iload_n hx hb dX4_isGood_132 rfl (lv_at hl 0 rfl) ?_
      refine zcall_i (wc := []) (wr := [cM h b ((pm : Nat) : Int) ((n : Nat) : Int) ((k : Nat) : Int) ((d : Nat) : Int) ((rr : Nat) : Int) ((hd : Nat) : Int) ((sm : Nat) : Int) kr kq ku s0 s1 s2 s3 s4 s5 hs, cR cI (b 0) 22 gl]) (rest := []) hE hP hD hS hA [] [0, 1] [0, 1] rfl rfl (by decide) (by decide) (by decide) (fun (u : Unit) => [cM h b ((pm : Nat) : Int) ((n : Nat) : Int) ((k : Nat) : Int) ((d : Nat) : Int) ((rr : Nat) : Int) ((hd : Nat) : Int) ((sm : Nat) : Int) kr kq ku s0 s1 s2 s3 s4 s5 hs, cR cI (b 0) 22 gl]) (fun u => rfl) (fun hPc hDc => zrunS (As := [.int (zI ((lt i0 : Nat) : Int))]) (rest := []) K k_X4_kindBy qm_X4_74 ⟨⟨rfl, rfl⟩, ⟨Nat.le_of_ble_eq_true rfl, Nat.le_of_ble_eq_true rfl⟩⟩ hPc hDc (c_X4_kindBy l D cI ((lt i0 : Nat) : Int) (by first | assumption | omega) _) rfl hl.1 rfl (Nat.le_of_ble_eq_true rfl) dX4_isGood_133 ⟨Nat.zero_le _, Nat.zero_le _⟩) (by decide) (fun z u H locs hpost hP hD hS => ?_)
      subst hpost
      have hP : va_P D cls [cM h b ((pm : Nat) : Int) ((n : Nat) : Int) ((k : Nat) : Int) ((d : Nat) : Int) ((rr : Nat) : Int) ((hd : Nat) : Int) ((sm : Nat) : Int) kr kq ku s0 s1 s2 s3 s4 s5 hs, cR cI (b 0) 22 gl] H := hP
      have hD : va_D (va_A [cM h b ((pm : Nat) : Int) ((n : Nat) : Int) ((k : Nat) : Int) ((d : Nat) : Int) ((rr : Nat) : Int) ((hd : Nat) : Int) ((sm : Nat) : Int) kr kq ku s0 s1 s2 s3 s4 s5 hs, cR cI (b 0) 22 gl] sz) [cM h b ((pm : Nat) : Int) ((n : Nat) : Int) ((k : Nat) : Int) ((d : Nat) : Int) ((rr : Nat) : Int) ((hd : Nat) : Int) ((sm : Nat) : Int) kr kq ku s0 s1 s2 s3 s4 s5 hs, cR cI (b 0) 22 gl] := hD
      refine W.eq (g2 := F0 m 136 ls [.int (zI (kdB ((lt i0 : Nat) : Int)))]) rfl ?_
      refine lv_iconst (v := zI (-1)) hx hb dX4_isGood_136 rfl ?_
      refine z_icmp_eq (tgt := 144) hx hb (by have := kdB_r ((lt i0 : Nat) : Int); omega) dX4_isGood_137 (by decide) (fun c_137 => ?_) (fun c_137 => ?_)
      · refine lv_iconst (v := zI 0) hx hb dX4_isGood_144 rfl ?_
        rw [← hQf]
        exact z_bret K hS () (by rw [okB_k (by omega) (by omega) (by omega)]; have := kdB_r ((lt i0 : Nat) : Int); first | exact b01_c (by simp; omega) | first | exact (b01_t (by simp; omega)).symm | exact (b01_f (by simp; omega)).symm) (by omega) hP hD dX4_isGood_145
      · refine lv_iconst (v := zI 1) hx hb dX4_isGood_140 rfl ?_
        refine lv_goto (tgt := 145) hx hb dX4_isGood_141 (by decide) ?_
        rw [← hQf]
        exact z_bret K hS () (by rw [okB_k (by omega) (by omega) (by omega)]; have := kdB_r ((lt i0 : Nat) : Int); first | exact b01_c (by simp; omega) | first | exact (b01_t (by simp; omega)).symm | exact (b01_f (by simp; omega)).symm) (by omega) hP hD dX4_isGood_145
    · refine lv_lookup (off := 40) (tgt := 146) hx hb dX4_isGood_106 (by decide) (by rw [zI_toInt (by omega), c_106]; first | done | rfl | decide) (by decide) ?_
      refine lv_iload_n hx hb dX4_isGood_146 rfl (lv_at hl 0 rfl) ?_
      refine z_i2l hx hb (by omega) dX4_isGood_147 ?_
      refine lv_ldc2 (v := zL 48) hx hb hown (hts _ qk_X4_72) dX4_isGood_148 ?_
      refine lv_ldc2 (v := zL 57) hx hb hown (hts _ qk_X4_70) dX4_isGood_151 ?_
      refine zcall_i (wc := []) (wr := [cM h b ((pm : Nat) : Int) ((n : Nat) : Int) ((k : Nat) : Int) ((d : Nat) : Int) ((rr : Nat) : Int) ((hd : Nat) : Int) ((sm : Nat) : Int) kr kq ku s0 s1 s2 s3 s4 s5 hs, cR cI (b 0) 22 gl]) (rest := []) hE hP hD hS hA [] [0, 1] [0, 1] rfl rfl (by decide) (by decide) (by decide) (fun (u : Unit) => [cM h b ((pm : Nat) : Int) ((n : Nat) : Int) ((k : Nat) : Int) ((d : Nat) : Int) ((rr : Nat) : Int) ((hd : Nat) : Int) ((sm : Nat) : Int) kr kq ku s0 s1 s2 s3 s4 s5 hs, cR cI (b 0) 22 gl]) (fun u => rfl) (fun hPc hDc => zrunS (As := [.long (zL ((lt i0 : Nat) : Int)), .long (zL 48), .long (zL 57)]) (rest := []) K k_X4_in qm_X4_61 ⟨⟨rfl, rfl⟩, ⟨Nat.le_of_ble_eq_true rfl, Nat.le_of_ble_eq_true rfl⟩⟩ hPc hDc (c_X4_in l D cI ((lt i0 : Nat) : Int) 48 57 (by first | assumption | omega) (by first | assumption | omega) (by first | assumption | omega) _) rfl hl.1 rfl (Nat.le_of_ble_eq_true rfl) dX4_isGood_154 ⟨Nat.zero_le _, Nat.zero_le _⟩) (by decide) (fun z u H locs hpost hP hD hS => ?_)
      subst hpost
      have hP : va_P D cls [cM h b ((pm : Nat) : Int) ((n : Nat) : Int) ((k : Nat) : Int) ((d : Nat) : Int) ((rr : Nat) : Int) ((hd : Nat) : Int) ((sm : Nat) : Int) kr kq ku s0 s1 s2 s3 s4 s5 hs, cR cI (b 0) 22 gl] H := hP
      have hD : va_D (va_A [cM h b ((pm : Nat) : Int) ((n : Nat) : Int) ((k : Nat) : Int) ((d : Nat) : Int) ((rr : Nat) : Int) ((hd : Nat) : Int) ((sm : Nat) : Int) kr kq ku s0 s1 s2 s3 s4 s5 hs, cR cI (b 0) 22 gl] sz) [cM h b ((pm : Nat) : Int) ((n : Nat) : Int) ((k : Nat) : Int) ((d : Nat) : Int) ((rr : Nat) : Int) ((hd : Nat) : Int) ((sm : Nat) : Int) kr kq ku s0 s1 s2 s3 s4 s5 hs, cR cI (b 0) 22 gl] := hD
      refine W.eq (g2 := F0 m 157 ls [.int (zI (b01 (48 ≤ ((lt i0 : Nat) : Int) ∧ ((lt i0 : Nat) : Int) ≤ 57)))]) rfl ?_
      rw [← hQf]
      exact z_bret K hS () (by rw [okB_n (by omega) (by omega) (by omega)]; first | exact b01_c (by simp; omega) | first | exact (b01_t (by simp; omega)).symm | exact (b01_f (by simp; omega)).symm) (by exact b01_01 _) hP hD dX4_isGood_157
    · refine lv_lookup (off := 52) (tgt := 158) hx hb dX4_isGood_106 (by decide) (by rw [zI_toInt (by omega)]; obtain ⟨e0, e1⟩ := c_106; simp [Op.lookupswitch.offset, e0, e1, Ne.symm e0, Ne.symm e1]) (by decide) ?_
      refine lv_iload_n hx hb dX4_isGood_158 rfl (lv_at hl 0 rfl) ?_
      refine lv_bipush (v := zI 44) hx hb dX4_isGood_159 (by decide) ?_
      refine z_icmp_ne (tgt := 174) hx hb (by omega) dX4_isGood_161 (by decide) (fun c_161 => ?_) (fun c_161 => ?_)
      · refine lv_iconst (v := zI 0) hx hb dX4_isGood_174 rfl ?_
        rw [← hQf]
        exact z_bret K hS () (by rcases Nat.lt_or_ge i0 20 with h9 | h9; (rw [okB_c (by omega) (by omega) (by omega)]; first | exact b01_c (by simp; omega) | first | exact (b01_t (by simp; omega)).symm | exact (b01_f (by simp; omega)).symm); (rw [okB_20 (by omega)]; first | rfl | (exfalso; omega))) (by omega) hP hD dX4_isGood_175
      · refine lv_iload_n hx hb dX4_isGood_164 rfl (lv_at hl 2 rfl) ?_
        refine lv_bipush (v := zI 20) hx hb dX4_isGood_165 (by decide) ?_
        refine z_icmp_ge (tgt := 174) hx hb (by omega) dX4_isGood_167 (by decide) (fun c_167 => ?_) (fun c_167 => ?_)
        · refine lv_iconst (v := zI 0) hx hb dX4_isGood_174 rfl ?_
          rw [← hQf]
          exact z_bret K hS () (by rcases Nat.lt_or_ge i0 20 with h9 | h9; (rw [okB_c (by omega) (by omega) (by omega)]; first | exact b01_c (by simp; omega) | first | exact (b01_t (by simp; omega)).symm | exact (b01_f (by simp; omega)).symm); (rw [okB_20 (by omega)]; first | rfl | (exfalso; omega))) (by omega) hP hD dX4_isGood_175
        · refine lv_iconst (v := zI 1) hx hb dX4_isGood_170 rfl ?_
          refine lv_goto (tgt := 175) hx hb dX4_isGood_171 (by decide) ?_
          rw [← hQf]
          exact z_bret K hS () (by rcases Nat.lt_or_ge i0 20 with h9 | h9; (rw [okB_c (by omega) (by omega) (by omega)]; first | exact b01_c (by simp; omega) | first | exact (b01_t (by simp; omega)).symm | exact (b01_f (by simp; omega)).symm); (rw [okB_20 (by omega)]; first | rfl | (exfalso; omega))) (by omega) hP hD dX4_isGood_175
set_option maxHeartbeats 4000000 in
set_option maxRecDepth 100000 in
theorem c_X4_faultOf (l : Launch) (D : va_G) (cI : ClassId) (h : Nat) (b : Nat → Nat) (pm n k d rr hd sm : Nat) (kr kq ku s0 s1 s2 s3 s4 s5 hs : Int) (gl : Nat → Int) (lt : Nat → Nat) (hL : LI pm gl lt) : zMi l yX4_faultOf cX4_faultOf 2 (some .int) ({ frames := 2, cells := 0, slots := 0, locals := 47 }) D cI [.ref h] [cM h b ((pm : Nat) : Int) ((n : Nat) : Int) ((k : Nat) : Int) ((d : Nat) : Int) ((rr : Nat) : Int) ((hd : Nat) : Int) ((sm : Nat) : Int) kr kq ku s0 s1 s2 s3 s4 s5 hs, cR cI (b 0) 22 gl] (fun (z : Int) (u : Unit) => z = (((fFau pm lt) : Nat) : Int)) (fun (u : Unit) => [cM h b ((pm : Nat) : Int) ((n : Nat) : Int) ((k : Nat) : Int) ((d : Nat) : Int) ((rr : Nat) : Int) ((hd : Nat) : Int) ((sm : Nat) : Int) kr kq ku s0 s1 s2 s3 s4 s5 hs, cR cI (b 0) 22 gl]) := by
  intro sz
  refine zstart rfl (by decide) (Nat.le_of_ble_eq_true rfl) ?_
  intro p e s m below meth c ls K hnm hsz hP hD hS hl
  generalize hargs : ([.ref h] : List Value).toArray = args at K ⊢
  generalize hQf : MQ below _ args s _ _ _ = Qf
  have K : zK p s m args meth c cX4_faultOf 2 RX4 (some .int) D cI := K
  obtain ⟨hx, hb, hml, hown, hts, hE, -, -⟩ := id K
  have hA := zhA (ws0 := [cM h b ((pm : Nat) : Int) ((n : Nat) : Int) ((k : Nat) : Int) ((d : Nat) : Int) ((rr : Nat) : Int) ((hd : Nat) : Int) ((sm : Nat) : Int) kr kq ku s0 s1 s2 s3 s4 s5 hs, cR cI (b 0) 22 gl]) hsz
  have hl : lv_has ls 2 [(0, .ref h)] := hl
  have hpl := hL.1
  refine lv_iconst (v := zI 0) hx hb dX4_faultOf_0 rfl ?_
  refine lv_istore_n (lv' := [(1, .int (zI 0)), (0, .ref h)]) hx hb dX4_faultOf_1 rfl hl (by decide) rfl (fun ls hl => ?_)
  have cut_2 : ∀ (N_2 : Nat), ∀ (i : Nat), pm - i < N_2 → (i ≤ pm) → (∀ j, j < i → (!okB lt j) = false) → ∀ (H : Heap) (locs : List Loc) (ls : Array Slot), va_P D cls [cM h b ((pm : Nat) : Int) ((n : Nat) : Int) ((k : Nat) : Int) ((d : Nat) : Int) ((rr : Nat) : Int) ((hd : Nat) : Int) ((sm : Nat) : Int) kr kq ku s0 s1 s2 s3 s4 s5 hs, cR cI (b 0) 22 gl] H → va_D (va_A [cM h b ((pm : Nat) : Int) ((n : Nat) : Int) ((k : Nat) : Int) ((d : Nat) : Int) ((rr : Nat) : Int) ((hd : Nat) : Int) ((sm : Nat) : Int) kr kq ku s0 s1 s2 s3 s4 s5 hs, cR cI (b 0) 22 gl] sz) [cM h b ((pm : Nat) : Int) ((n : Nat) : Int) ((k : Nat) : Int) ((d : Nat) : Int) ((rr : Nat) : Int) ((hd : Nat) : Int) ((sm : Nat) : Int) kr kq ku s0 s1 s2 s3 s4 s5 hs, cR cI (b 0) 22 gl] → va_S (va_A [cM h b ((pm : Nat) : Int) ((n : Nat) : Int) ((k : Nat) : Int) ((d : Nat) : Int) ((rr : Nat) : Int) ((hd : Nat) : Int) ((sm : Nat) : Int) kr kq ku s0 s1 s2 s3 s4 s5 hs, cR cI (b 0) 22 gl] sz) s.heap H locs → lv_has ls 2 [(0, .ref h), (1, .int (zI ((i : Nat) : Int)))] → W p l e ({ frames := 2, cells := 0, slots := 0, locals := 47 }) s m args below meth c H locs 0 0 Qf (F0 m 2 ls []) := by
    intro N_2
    induction N_2 with
    | zero => intro i hm_2; exact absurd hm_2 (Nat.not_lt_zero _)
    | succ N_2 ih_2 =>
      intro i hm_2 hi hn H locs ls hP hD hS hl
      have hi20 : i ≤ 20 := by
        rcases Nat.lt_or_ge 20 i with h1 | h1
        · have h2 := hn 20 h1
          rw [okB_20 (by omega)] at h2; cases h2
        · exact h1
      refine lv_iload_n hx hb dX4_faultOf_2 rfl (lv_at hl 1 rfl) ?_
      refine lv_aload_n hx hb dX4_faultOf_3 rfl (lv_at hl 0 rfl) ?_
      refine va_get (D := D) (ci := 4) (v := .int (zI ((pm : Nat) : Int))) (C := RX4) (T := TX4) (N := 32) hx hb hts inT_X4 hown hE.1 hP 0 rfl rfl 1 (by decide) (hts _ qf_X4_65) (fun _ h9 => h9) rfl dX4_faultOf_4 ?_
      refine z_icmp_ge (tgt := 24) hx hb (by omega) dX4_faultOf_7 (by decide) (fun c_7 => ?_) (fun c_7 => ?_)
      · refine lv_iload_n hx hb dX4_faultOf_24 rfl (lv_at hl 1 rfl) ?_
        rw [← hQf]
        exact z_iret K hS () (by first | rw [fFau, fa_is (m := i) hn (Or.inl (by omega))] | rw [fFau, fa_is hn (Or.inr ⟨by omega, by simpa using b_15⟩)]) hP hD dX4_faultOf_25
      · refine lv_aload_n hx hb dX4_faultOf_10 rfl (lv_at hl 0 rfl) ?_
        refine lv_iload_n hx hb dX4_faultOf_11 rfl (lv_at hl 1 rfl) ?_
        refine zcall_i (wc := [cM h b ((pm : Nat) : Int) ((n : Nat) : Int) ((k : Nat) : Int) ((d : Nat) : Int) ((rr : Nat) : Int) ((hd : Nat) : Int) ((sm : Nat) : Int) kr kq ku s0 s1 s2 s3 s4 s5 hs, cR cI (b 0) 22 gl]) (wr := []) (rest := []) hE hP hD hS hA [0, 1] [] [0, 1] rfl rfl (by decide) (by decide) (by decide) (fun (u : Unit) => [cM h b ((pm : Nat) : Int) ((n : Nat) : Int) ((k : Nat) : Int) ((d : Nat) : Int) ((rr : Nat) : Int) ((hd : Nat) : Int) ((sm : Nat) : Int) kr kq ku s0 s1 s2 s3 s4 s5 hs, cR cI (b 0) 22 gl]) (fun u => rfl) (fun hPc hDc => zrunV (As := [.int (zI ((i : Nat) : Int))]) (rest := []) (q0 := 0) (ci := 4) K k_X4_isGood qm_X4_78 ⟨⟨rfl, rfl⟩, ⟨Nat.le_of_ble_eq_true rfl, Nat.le_of_ble_eq_true rfl⟩⟩ rfl rfl hPc hDc (c_X4_isGood l D cI h b pm n k d rr hd sm kr kq ku s0 s1 s2 s3 s4 s5 hs gl lt i (by first | assumption | omega) (by first | assumption | omega) (by first | assumption | omega) _) rfl hl.1 rfl (Nat.le_of_ble_eq_true rfl) dX4_faultOf_12 ⟨Nat.zero_le _, Nat.zero_le _⟩) (by decide) (fun z u H locs hpost hP hD hS => ?_)
        subst hpost
        have hP : va_P D cls [cM h b ((pm : Nat) : Int) ((n : Nat) : Int) ((k : Nat) : Int) ((d : Nat) : Int) ((rr : Nat) : Int) ((hd : Nat) : Int) ((sm : Nat) : Int) kr kq ku s0 s1 s2 s3 s4 s5 hs, cR cI (b 0) 22 gl] H := hP
        have hD : va_D (va_A [cM h b ((pm : Nat) : Int) ((n : Nat) : Int) ((k : Nat) : Int) ((d : Nat) : Int) ((rr : Nat) : Int) ((hd : Nat) : Int) ((sm : Nat) : Int) kr kq ku s0 s1 s2 s3 s4 s5 hs, cR cI (b 0) 22 gl] sz) [cM h b ((pm : Nat) : Int) ((n : Nat) : Int) ((k : Nat) : Int) ((d : Nat) : Int) ((rr : Nat) : Int) ((hd : Nat) : Int) ((sm : Nat) : Int) kr kq ku s0 s1 s2 s3 s4 s5 hs, cR cI (b 0) 22 gl] := hD
        refine W.eq (g2 := F0 m 15 ls [.int (zI (b01 (okB lt i = true)))]) rfl ?_
        refine z_if_eq (tgt := 24) hx hb (by have := b01_r (okB lt i = true); omega) dX4_faultOf_15 (by decide) (fun c_15 => ?_) (fun c_15 => ?_)
        · have b_15 := b01_eq c_15
          refine lv_iload_n hx hb dX4_faultOf_24 rfl (lv_at hl 1 rfl) ?_
          rw [← hQf]
          exact z_iret K hS () (by first | rw [fFau, fa_is (m := i) hn (Or.inl (by omega))] | rw [fFau, fa_is hn (Or.inr ⟨by omega, by simpa using b_15⟩)]) hP hD dX4_faultOf_25
        · have b_15 := b01_ne c_15
          refine z_iinc (k := 1) (lv' := [(1, .int (zI (((i + 1) : Nat) : Int))), (0, .ref h)]) hx hb (((i + 1) : Nat) : Int) (by omega) dX4_faultOf_18 hl rfl (by decide) rfl (fun ls hl => ?_)
          refine lv_goto (tgt := 2) hx hb dX4_faultOf_21 (by decide) ?_
          exact ih_2 (i + 1) (by omega) (by omega) (by intro j hj; rcases Nat.lt_or_ge j i with h1 | h1; exact hn j h1; rw [show j = i by omega, b_15]; rfl) _ _ _ hP hD hS (lv_sub hl [1, 0] rfl)
  exact cut_2 (pm - 0 + 1) 0 (Nat.lt_succ_self _) (by omega) (by intro j hj; omega) _ _ _ hP hD hS (lv_sub hl [1, 0] rfl)
set_option maxHeartbeats 4000000 in
set_option maxRecDepth 100000 in
theorem c_X4_fault (l : Launch) (D : va_G) (cI : ClassId) (h : Nat) (b : Nat → Nat) (pm n k d rr hd sm : Nat) (kr kq ku s0 s1 s2 s3 s4 s5 hs : Int) (gl : Nat → Int) (lt : Nat → Nat) (hL : LI pm gl lt) : zMi l yX4_fault cX4_fault 1 (some .int) ({ frames := 3, cells := 0, slots := 0, locals := 68 }) D cI [.ref h] [cM h b ((pm : Nat) : Int) ((n : Nat) : Int) ((k : Nat) : Int) ((d : Nat) : Int) ((rr : Nat) : Int) ((hd : Nat) : Int) ((sm : Nat) : Int) kr kq ku s0 s1 s2 s3 s4 s5 hs, cR cI (b 0) 22 gl] (fun (z : Int) (u : Unit) => z = (((fFau pm lt) : Nat) : Int)) (fun (u : Unit) => [cM h b ((pm : Nat) : Int) ((n : Nat) : Int) ((k : Nat) : Int) ((d : Nat) : Int) ((rr : Nat) : Int) ((hd : Nat) : Int) ((sm : Nat) : Int) kr kq ku s0 s1 s2 s3 s4 s5 hs, cR cI (b 0) 22 gl]) := by
  intro sz
  refine zstart rfl (by decide) (Nat.le_of_ble_eq_true rfl) ?_
  intro p e s m below meth c ls K hnm hsz hP hD hS hl
  generalize hargs : ([.ref h] : List Value).toArray = args at K ⊢
  generalize hQf : MQ below _ args s _ _ _ = Qf
  have K : zK p s m args meth c cX4_fault 1 RX4 (some .int) D cI := K
  obtain ⟨hx, hb, hml, hown, hts, hE, -, -⟩ := id K
  have hA := zhA (ws0 := [cM h b ((pm : Nat) : Int) ((n : Nat) : Int) ((k : Nat) : Int) ((d : Nat) : Int) ((rr : Nat) : Int) ((hd : Nat) : Int) ((sm : Nat) : Int) kr kq ku s0 s1 s2 s3 s4 s5 hs, cR cI (b 0) 22 gl]) hsz
  have hl : lv_has ls 1 [(0, .ref h)] := hl
  refine lv_aload_n hx hb dX4_fault_0 rfl (lv_at hl 0 rfl) ?_
  refine zcall_i (wc := [cM h b ((pm : Nat) : Int) ((n : Nat) : Int) ((k : Nat) : Int) ((d : Nat) : Int) ((rr : Nat) : Int) ((hd : Nat) : Int) ((sm : Nat) : Int) kr kq ku s0 s1 s2 s3 s4 s5 hs, cR cI (b 0) 22 gl]) (wr := []) (rest := []) hE hP hD hS hA [0, 1] [] [0, 1] rfl rfl (by decide) (by decide) (by decide) (fun (u : Unit) => [cM h b ((pm : Nat) : Int) ((n : Nat) : Int) ((k : Nat) : Int) ((d : Nat) : Int) ((rr : Nat) : Int) ((hd : Nat) : Int) ((sm : Nat) : Int) kr kq ku s0 s1 s2 s3 s4 s5 hs, cR cI (b 0) 22 gl]) (fun u => rfl) (fun hPc hDc => zrunV (As := []) (rest := []) (q0 := 0) (ci := 4) K k_X4_faultOf qm_X4_82 ⟨⟨rfl, rfl⟩, ⟨Nat.le_of_ble_eq_true rfl, Nat.le_of_ble_eq_true rfl⟩⟩ rfl rfl hPc hDc (c_X4_faultOf l D cI h b pm n k d rr hd sm kr kq ku s0 s1 s2 s3 s4 s5 hs gl lt (by first | assumption | omega) _) rfl hl.1 rfl (Nat.le_of_ble_eq_true rfl) dX4_fault_1 ⟨Nat.zero_le _, Nat.zero_le _⟩) (by decide) (fun z u H locs hpost hP hD hS => ?_)
  subst hpost
  have hP : va_P D cls [cM h b ((pm : Nat) : Int) ((n : Nat) : Int) ((k : Nat) : Int) ((d : Nat) : Int) ((rr : Nat) : Int) ((hd : Nat) : Int) ((sm : Nat) : Int) kr kq ku s0 s1 s2 s3 s4 s5 hs, cR cI (b 0) 22 gl] H := hP
  have hD : va_D (va_A [cM h b ((pm : Nat) : Int) ((n : Nat) : Int) ((k : Nat) : Int) ((d : Nat) : Int) ((rr : Nat) : Int) ((hd : Nat) : Int) ((sm : Nat) : Int) kr kq ku s0 s1 s2 s3 s4 s5 hs, cR cI (b 0) 22 gl] sz) [cM h b ((pm : Nat) : Int) ((n : Nat) : Int) ((k : Nat) : Int) ((d : Nat) : Int) ((rr : Nat) : Int) ((hd : Nat) : Int) ((sm : Nat) : Int) kr kq ku s0 s1 s2 s3 s4 s5 hs, cR cI (b 0) 22 gl] := hD
  refine W.eq (g2 := F0 m 4 ls [.int (zI (((fFau pm lt) : Nat) : Int))]) rfl ?_
  rw [← hQf]
  exact z_iret K hS () (by first | rfl | omega | (split <;> omega)) hP hD dX4_fault_4
set_option maxHeartbeats 4000000 in
set_option maxRecDepth 100000 in
theorem c_X4_routine (l : Launch) (D : va_G) (cI : ClassId) (h : Nat) (b : Nat → Nat) (pm n k d rr hd sm : Nat) (kr kq ku s0 s1 s2 s3 s4 s5 hs : Int) (gl g0 g1 g3 : Nat → Int) (lt : Nat → Nat) (hL : LI pm gl lt) : zMi l yX4_routine cX4_routine 2 (some .int) ({ frames := 3, cells := 0, slots := 0, locals := 68 }) D cI [.ref h] [cM h b ((pm : Nat) : Int) ((n : Nat) : Int) ((k : Nat) : Int) ((d : Nat) : Int) ((rr : Nat) : Int) ((hd : Nat) : Int) ((sm : Nat) : Int) kr kq ku s0 s1 s2 s3 s4 s5 hs, cR cI (b 0) 22 gl, cR cI (b 1) 6 g0, cR cI (b 2) 6 g1, cR cI (b 3) 12 g3] (fun (z : Int) (u : (Nat) × (Nat) × (Nat) × (Nat) × (Nat) × (Nat) × (Nat → Int) × (Nat → Int) × (Nat → Int)) => (z = (if rOk pm lt then ((roK pm : Nat) : Int) else -103)) ∧ (¬ rOk pm lt → u.1 = pm ∧ u.2.1 = n ∧ u.2.2.1 = k ∧ u.2.2.2.1 = d ∧ u.2.2.2.2.1 = rr ∧ u.2.2.2.2.2.1 = sm ∧ u.2.2.2.2.2.2.1 = g0 ∧ u.2.2.2.2.2.2.2.1 = g1 ∧ u.2.2.2.2.2.2.2.2 = g3) ∧ (rOk pm lt → u.1 = 0 ∧ u.2.1 = roN lt ∧ u.2.2.1 = roK pm ∧ u.2.2.2.1 = 0 ∧ u.2.2.2.2.1 = rr + 1 ∧ u.2.2.2.2.2.1 = 0 ∧ ∀ (gq : Nat → Int) (ss sf st : Nat → Nat), MI (roN lt) (roK pm) 0 0 u.2.2.2.2.2.2.1 u.2.2.2.2.2.2.2.1 u.2.2.2.2.2.2.2.2 gq (roκ lt) (roν lt) (fun j => j) ss sf st)) (fun (u : (Nat) × (Nat) × (Nat) × (Nat) × (Nat) × (Nat) × (Nat → Int) × (Nat → Int) × (Nat → Int)) => [cM h b ((u.1 : Nat) : Int) ((u.2.1 : Nat) : Int) ((u.2.2.1 : Nat) : Int) ((u.2.2.2.1 : Nat) : Int) ((u.2.2.2.2.1 : Nat) : Int) ((hd : Nat) : Int) ((u.2.2.2.2.2.1 : Nat) : Int) kr kq ku s0 s1 s2 s3 s4 s5 hs, cR cI (b 0) 22 gl, cR cI (b 1) 6 u.2.2.2.2.2.2.1, cR cI (b 2) 6 u.2.2.2.2.2.2.2.1, cR cI (b 3) 12 u.2.2.2.2.2.2.2.2]) := by
  intro sz
  refine zstart rfl (by decide) (Nat.le_of_ble_eq_true rfl) ?_
  intro p e s m below meth c ls K hnm hsz hP hD hS hl
  generalize hargs : ([.ref h] : List Value).toArray = args at K ⊢
  generalize hQf : MQ below _ args s _ _ _ = Qf
  have K : zK p s m args meth c cX4_routine 2 RX4 (some .int) D cI := K
  obtain ⟨hx, hb, hml, hown, hts, hE, -, -⟩ := id K
  have hA := zhA (ws0 := [cM h b ((pm : Nat) : Int) ((n : Nat) : Int) ((k : Nat) : Int) ((d : Nat) : Int) ((rr : Nat) : Int) ((hd : Nat) : Int) ((sm : Nat) : Int) kr kq ku s0 s1 s2 s3 s4 s5 hs, cR cI (b 0) 22 gl, cR cI (b 1) 6 g0, cR cI (b 2) 6 g1, cR cI (b 3) 12 g3]) hsz
  have hl : lv_has ls 2 [(0, .ref h)] := hl
  obtain ⟨hpl, hgl, hlt⟩ := id hL
  have hfl : fFau pm lt ≤ pm := fa_first_le _ _
  refine lv_aload_n hx hb dX4_routine_0 rfl (lv_at hl 0 rfl) ?_
  refine va_get (D := D) (ci := 4) (v := .int (zI ((pm : Nat) : Int))) (C := RX4) (T := TX4) (N := 32) hx hb hts inT_X4 hown hE.1 hP 0 rfl rfl 1 (by decide) (hts _ qf_X4_65) (fun _ h9 => h9) rfl dX4_routine_1 ?_
  refine lv_iconst (v := zI 5) hx hb dX4_routine_4 rfl ?_
  refine z_icmp_lt (tgt := 29) hx hb (by omega) dX4_routine_5 (by decide) (fun c_5 => ?_) (fun c_5 => ?_)
  · refine lv_bipush (v := zI (-103)) hx hb dX4_routine_29 (by decide) ?_
    rw [← hQf]
    exact z_iret K hS (pm, n, k, d, rr, sm, g0, g1, g3) ⟨(by rw [if_neg (by unfold rOk; omega)]), (by (try dsimp only); intro _; exact ⟨rfl, rfl, rfl, rfl, rfl, rfl, rfl, rfl, rfl⟩), (by (try dsimp only); intro h9; exfalso; unfold rOk at h9; omega)⟩ hP hD dX4_routine_31
  · refine lv_aload_n hx hb dX4_routine_8 rfl (lv_at hl 0 rfl) ?_
    refine va_get (D := D) (ci := 4) (v := .int (zI ((pm : Nat) : Int))) (C := RX4) (T := TX4) (N := 32) hx hb hts inT_X4 hown hE.1 hP 0 rfl rfl 1 (by decide) (hts _ qf_X4_65) (fun _ h9 => h9) rfl dX4_routine_9 ?_
    refine lv_iconst (v := zI 3) hx hb dX4_routine_12 rfl ?_
    refine z_irem hx hb (((pm % 3) : Nat) : Int) (by omega) rfl dX4_routine_13 ?_
    refine lv_iconst (v := zI 2) hx hb dX4_routine_14 rfl ?_
    refine z_icmp_ne (tgt := 29) hx hb (by omega) dX4_routine_15 (by decide) (fun c_15 => ?_) (fun c_15 => ?_)
    · refine lv_bipush (v := zI (-103)) hx hb dX4_routine_29 (by decide) ?_
      rw [← hQf]
      exact z_iret K hS (pm, n, k, d, rr, sm, g0, g1, g3) ⟨(by rw [if_neg (by unfold rOk; omega)]), (by (try dsimp only); intro _; exact ⟨rfl, rfl, rfl, rfl, rfl, rfl, rfl, rfl, rfl⟩), (by (try dsimp only); intro h9; exfalso; unfold rOk at h9; omega)⟩ hP hD dX4_routine_31
    · refine lv_aload_n hx hb dX4_routine_18 rfl (lv_at hl 0 rfl) ?_
      refine zcall_i (wc := [cM h b ((pm : Nat) : Int) ((n : Nat) : Int) ((k : Nat) : Int) ((d : Nat) : Int) ((rr : Nat) : Int) ((hd : Nat) : Int) ((sm : Nat) : Int) kr kq ku s0 s1 s2 s3 s4 s5 hs, cR cI (b 0) 22 gl]) (wr := [cR cI (b 1) 6 g0, cR cI (b 2) 6 g1, cR cI (b 3) 12 g3]) (rest := []) hE hP hD hS hA [0, 1] [2, 3, 4] [3, 4, 0, 1, 2] rfl rfl (by decide) (by decide) (by decide) (fun (u : Unit) => [cM h b ((pm : Nat) : Int) ((n : Nat) : Int) ((k : Nat) : Int) ((d : Nat) : Int) ((rr : Nat) : Int) ((hd : Nat) : Int) ((sm : Nat) : Int) kr kq ku s0 s1 s2 s3 s4 s5 hs, cR cI (b 0) 22 gl, cR cI (b 1) 6 g0, cR cI (b 2) 6 g1, cR cI (b 3) 12 g3]) (fun u => rfl) (fun hPc hDc => zrunV (As := []) (rest := []) (q0 := 0) (ci := 4) K k_X4_faultOf qm_X4_82 ⟨⟨rfl, rfl⟩, ⟨Nat.le_of_ble_eq_true rfl, Nat.le_of_ble_eq_true rfl⟩⟩ rfl rfl hPc hDc (c_X4_faultOf l D cI h b pm n k d rr hd sm kr kq ku s0 s1 s2 s3 s4 s5 hs gl lt (by first | assumption | omega) _) rfl hl.1 rfl (Nat.le_of_ble_eq_true rfl) dX4_routine_19 ⟨Nat.zero_le _, Nat.zero_le _⟩) (by decide) (fun z u H locs hpost hP hD hS => ?_)
      subst hpost
      have hP : va_P D cls [cM h b ((pm : Nat) : Int) ((n : Nat) : Int) ((k : Nat) : Int) ((d : Nat) : Int) ((rr : Nat) : Int) ((hd : Nat) : Int) ((sm : Nat) : Int) kr kq ku s0 s1 s2 s3 s4 s5 hs, cR cI (b 0) 22 gl, cR cI (b 1) 6 g0, cR cI (b 2) 6 g1, cR cI (b 3) 12 g3] H := hP
      have hD : va_D (va_A [cM h b ((pm : Nat) : Int) ((n : Nat) : Int) ((k : Nat) : Int) ((d : Nat) : Int) ((rr : Nat) : Int) ((hd : Nat) : Int) ((sm : Nat) : Int) kr kq ku s0 s1 s2 s3 s4 s5 hs, cR cI (b 0) 22 gl, cR cI (b 1) 6 g0, cR cI (b 2) 6 g1, cR cI (b 3) 12 g3] sz) [cM h b ((pm : Nat) : Int) ((n : Nat) : Int) ((k : Nat) : Int) ((d : Nat) : Int) ((rr : Nat) : Int) ((hd : Nat) : Int) ((sm : Nat) : Int) kr kq ku s0 s1 s2 s3 s4 s5 hs, cR cI (b 0) 22 gl, cR cI (b 1) 6 g0, cR cI (b 2) 6 g1, cR cI (b 3) 12 g3] := hD
      refine W.eq (g2 := F0 m 22 ls [.int (zI (((fFau pm lt) : Nat) : Int))]) rfl ?_
      refine lv_aload_n hx hb dX4_routine_22 rfl (lv_at hl 0 rfl) ?_
      refine va_get (D := D) (ci := 4) (v := .int (zI ((pm : Nat) : Int))) (C := RX4) (T := TX4) (N := 32) hx hb hts inT_X4 hown hE.1 hP 0 rfl rfl 1 (by decide) (hts _ qf_X4_65) (fun _ h9 => h9) rfl dX4_routine_23 ?_
      refine z_icmp_ge (tgt := 32) hx hb (by omega) dX4_routine_26 (by decide) (fun c_26 => ?_) (fun c_26 => ?_)
      · have hR : rOk pm lt := by unfold rOk; omega
        have h01 := rOk_01 hR
        have hrn := rOk_n hR
        have hrk := rOk_k hR
        have hr5 := hR.1
        have hr20 := rOk_20 hR
        refine lv_aload_n hx hb dX4_routine_32 rfl (lv_at hl 0 rfl) ?_
        refine lv_bipush (v := zI 10) hx hb dX4_routine_33 (by decide) ?_
        refine lv_aload_n hx hb dX4_routine_35 rfl (lv_at hl 0 rfl) ?_
        refine va_get (D := D) (ci := 4) (v := .ref (b 0)) (C := RX4) (T := TX4) (N := 32) hx hb hts inT_X4 hown hE.1 hP 0 rfl rfl 0 (by decide) (hts _ qf_X4_7) (fun _ h9 => h9) rfl dX4_routine_36 ?_
        refine lv_iconst (v := zI 0) hx hb dX4_routine_39 rfl ?_
        refine z_iald hx hb hE hP 1 rfl 0 (by omega) (by omega) (by first | decide | omega) ((lt 0 : Nat) : Int) (hgl 0 (by omega)) dX4_routine_40 ?_
        refine lv_bipush (v := zI 48) hx hb dX4_routine_41 (by decide) ?_
        refine z_isub hx hb (((lt 0 - 48) : Nat) : Int) (by omega) dX4_routine_43 ?_
        refine z_imul hx hb (((10 * (lt 0 - 48)) : Nat) : Int) (by first | omega | exact (Int.natCast_mul _ _).symm) dX4_routine_44 ?_
        refine lv_aload_n hx hb dX4_routine_45 rfl (lv_at hl 0 rfl) ?_
        refine va_get (D := D) (ci := 4) (v := .ref (b 0)) (C := RX4) (T := TX4) (N := 32) hx hb hts inT_X4 hown hE.1 hP 0 rfl rfl 0 (by decide) (hts _ qf_X4_7) (fun _ h9 => h9) rfl dX4_routine_46 ?_
        refine lv_iconst (v := zI 1) hx hb dX4_routine_49 rfl ?_
        refine z_iald hx hb hE hP 1 rfl 1 (by omega) (by omega) (by first | decide | omega) ((lt 1 : Nat) : Int) (hgl 1 (by omega)) dX4_routine_50 ?_
        refine z_iadd hx hb ((((10 * (lt 0 - 48)) + (lt 1)) : Nat) : Int) (by omega) dX4_routine_51 ?_
        refine lv_bipush (v := zI 48) hx hb dX4_routine_52 (by decide) ?_
        refine z_isub hx hb ((roN lt : Nat) : Int) (by unfold roN; omega) dX4_routine_54 ?_
        refine va_put (D := D) (ci := 4) (v := .int (zI ((roN lt : Nat) : Int))) (ty := .int) (C := RX4) (T := TX4) (N := 32) hx hb hts inT_X4 tyX4 tyX4_ok nmX4 hown hE.1 hP hD hS 0 rfl rfl 2 (by decide) (hts _ qf_X4_86) (fun _ h9 => h9) rfl (by decide +kernel) rfl rfl (Nat.le_of_ble_eq_true rfl) dX4_routine_55 (fun H locs hP hD hS => ?_)
        have hP : va_P D cls [cM h b ((pm : Nat) : Int) ((roN lt : Nat) : Int) ((k : Nat) : Int) ((d : Nat) : Int) ((rr : Nat) : Int) ((hd : Nat) : Int) ((sm : Nat) : Int) kr kq ku s0 s1 s2 s3 s4 s5 hs, cR cI (b 0) 22 gl, cR cI (b 1) 6 g0, cR cI (b 2) 6 g1, cR cI (b 3) 12 g3] H := hP
        have hD : va_D (va_A [cM h b ((pm : Nat) : Int) ((n : Nat) : Int) ((k : Nat) : Int) ((d : Nat) : Int) ((rr : Nat) : Int) ((hd : Nat) : Int) ((sm : Nat) : Int) kr kq ku s0 s1 s2 s3 s4 s5 hs, cR cI (b 0) 22 gl, cR cI (b 1) 6 g0, cR cI (b 2) 6 g1, cR cI (b 3) 12 g3] sz) [cM h b ((pm : Nat) : Int) ((roN lt : Nat) : Int) ((k : Nat) : Int) ((d : Nat) : Int) ((rr : Nat) : Int) ((hd : Nat) : Int) ((sm : Nat) : Int) kr kq ku s0 s1 s2 s3 s4 s5 hs, cR cI (b 0) 22 gl, cR cI (b 1) 6 g0, cR cI (b 2) 6 g1, cR cI (b 3) 12 g3] := hD
        refine lv_aload_n hx hb dX4_routine_58 rfl (lv_at hl 0 rfl) ?_
        refine lv_aload_n hx hb dX4_routine_59 rfl (lv_at hl 0 rfl) ?_
        refine va_get (D := D) (ci := 4) (v := .int (zI ((pm : Nat) : Int))) (C := RX4) (T := TX4) (N := 32) hx hb hts inT_X4 hown hE.1 hP 0 rfl rfl 1 (by decide) (hts _ qf_X4_65) (fun _ h9 => h9) rfl dX4_routine_60 ?_
        refine lv_iconst (v := zI 2) hx hb dX4_routine_63 rfl ?_
        refine z_isub hx hb (((pm - 2) : Nat) : Int) (by omega) dX4_routine_64 ?_
        refine lv_iconst (v := zI 3) hx hb dX4_routine_65 rfl ?_
        refine z_idiv hx hb ((roK pm : Nat) : Int) (by omega) (by first | rfl | (unfold roK; omega)) dX4_routine_66 ?_
        refine va_put (D := D) (ci := 4) (v := .int (zI ((roK pm : Nat) : Int))) (ty := .int) (C := RX4) (T := TX4) (N := 32) hx hb hts inT_X4 tyX4 tyX4_ok nmX4 hown hE.1 hP hD hS 0 rfl rfl 3 (by decide) (hts _ qf_X4_89) (fun _ h9 => h9) rfl (by decide +kernel) rfl rfl (Nat.le_of_ble_eq_true rfl) dX4_routine_67 (fun H locs hP hD hS => ?_)
        have hP : va_P D cls [cM h b ((pm : Nat) : Int) ((roN lt : Nat) : Int) ((roK pm : Nat) : Int) ((d : Nat) : Int) ((rr : Nat) : Int) ((hd : Nat) : Int) ((sm : Nat) : Int) kr kq ku s0 s1 s2 s3 s4 s5 hs, cR cI (b 0) 22 gl, cR cI (b 1) 6 g0, cR cI (b 2) 6 g1, cR cI (b 3) 12 g3] H := hP
        have hD : va_D (va_A [cM h b ((pm : Nat) : Int) ((n : Nat) : Int) ((k : Nat) : Int) ((d : Nat) : Int) ((rr : Nat) : Int) ((hd : Nat) : Int) ((sm : Nat) : Int) kr kq ku s0 s1 s2 s3 s4 s5 hs, cR cI (b 0) 22 gl, cR cI (b 1) 6 g0, cR cI (b 2) 6 g1, cR cI (b 3) 12 g3] sz) [cM h b ((pm : Nat) : Int) ((roN lt : Nat) : Int) ((roK pm : Nat) : Int) ((d : Nat) : Int) ((rr : Nat) : Int) ((hd : Nat) : Int) ((sm : Nat) : Int) kr kq ku s0 s1 s2 s3 s4 s5 hs, cR cI (b 0) 22 gl, cR cI (b 1) 6 g0, cR cI (b 2) 6 g1, cR cI (b 3) 12 g3] := hD
        refine lv_iconst (v := zI 0) hx hb dX4_routine_70 rfl ?_
        refine lv_istore_n (lv' := [(1, .int (zI 0)), (0, .ref h)]) hx hb dX4_routine_71 rfl hl (by decide) rfl (fun ls hl => ?_)
        have cut_72 : ∀ (N_72 : Nat), ∀ (i : Nat) (q0 q1 : Nat → Int), roK pm - i < N_72 → (i ≤ roK pm) → (∀ j, j < i → q0 j = ((roκ lt j : Nat) : Int)) → (∀ j, j < i → q1 j = ((roν lt j : Nat) : Int)) → ∀ (H : Heap) (locs : List Loc) (ls : Array Slot), va_P D cls [cM h b ((pm : Nat) : Int) ((roN lt : Nat) : Int) ((roK pm : Nat) : Int) ((d : Nat) : Int) ((rr : Nat) : Int) ((hd : Nat) : Int) ((sm : Nat) : Int) kr kq ku s0 s1 s2 s3 s4 s5 hs, cR cI (b 0) 22 gl, cR cI (b 1) 6 q0, cR cI (b 2) 6 q1, cR cI (b 3) 12 g3] H → va_D (va_A [cM h b ((pm : Nat) : Int) ((n : Nat) : Int) ((k : Nat) : Int) ((d : Nat) : Int) ((rr : Nat) : Int) ((hd : Nat) : Int) ((sm : Nat) : Int) kr kq ku s0 s1 s2 s3 s4 s5 hs, cR cI (b 0) 22 gl, cR cI (b 1) 6 g0, cR cI (b 2) 6 g1, cR cI (b 3) 12 g3] sz) [cM h b ((pm : Nat) : Int) ((roN lt : Nat) : Int) ((roK pm : Nat) : Int) ((d : Nat) : Int) ((rr : Nat) : Int) ((hd : Nat) : Int) ((sm : Nat) : Int) kr kq ku s0 s1 s2 s3 s4 s5 hs, cR cI (b 0) 22 gl, cR cI (b 1) 6 q0, cR cI (b 2) 6 q1, cR cI (b 3) 12 g3] → va_S (va_A [cM h b ((pm : Nat) : Int) ((n : Nat) : Int) ((k : Nat) : Int) ((d : Nat) : Int) ((rr : Nat) : Int) ((hd : Nat) : Int) ((sm : Nat) : Int) kr kq ku s0 s1 s2 s3 s4 s5 hs, cR cI (b 0) 22 gl, cR cI (b 1) 6 g0, cR cI (b 2) 6 g1, cR cI (b 3) 12 g3] sz) s.heap H locs → lv_has ls 2 [(0, .ref h), (1, .int (zI ((i : Nat) : Int)))] → W p l e ({ frames := 3, cells := 0, slots := 0, locals := 68 }) s m args below meth c H locs 0 0 Qf (F0 m 72 ls []) := by
          intro N_72
          induction N_72 with
          | zero => intro i q0 q1 hm_72; exact absurd hm_72 (Nat.not_lt_zero _)
          | succ N_72 ih_72 =>
            intro i q0 q1 hm_72 hi hq0 hq1 H locs ls hP hD hS hl
            refine lv_iload_n hx hb dX4_routine_72 rfl (lv_at hl 1 rfl) ?_
            refine lv_aload_n hx hb dX4_routine_73 rfl (lv_at hl 0 rfl) ?_
            refine va_get (D := D) (ci := 4) (v := .int (zI ((roK pm : Nat) : Int))) (C := RX4) (T := TX4) (N := 32) hx hb hts inT_X4 hown hE.1 hP 0 rfl rfl 3 (by decide) (hts _ qf_X4_89) (fun _ h9 => h9) rfl dX4_routine_74 ?_
            refine z_icmp_ge (tgt := 124) hx hb (by omega) dX4_routine_77 (by decide) (fun c_77 => ?_) (fun c_77 => ?_)
            · refine lv_aload_n hx hb dX4_routine_124 rfl (lv_at hl 0 rfl) ?_
              refine zcall_v (wc := [cM h b ((pm : Nat) : Int) ((roN lt : Nat) : Int) ((roK pm : Nat) : Int) ((d : Nat) : Int) ((rr : Nat) : Int) ((hd : Nat) : Int) ((sm : Nat) : Int) kr kq ku s0 s1 s2 s3 s4 s5 hs, cR cI (b 3) 12 g3]) (wr := [cR cI (b 0) 22 gl, cR cI (b 1) 6 q0, cR cI (b 2) 6 q1]) (rest := []) hE hP hD hS hA [0, 4] [1, 2, 3] [3, 0, 1, 2, 4] rfl rfl (by decide) (by decide) (by decide) (fun (u : Unit) => [cM h b ((pm : Nat) : Int) ((roN lt : Nat) : Int) ((roK pm : Nat) : Int) ((d : Nat) : Int) ((rr : Nat) : Int) ((hd : Nat) : Int) ((sm : Nat) : Int) kr kq ku s0 s1 s2 s3 s4 s5 hs, cR cI (b 0) 22 gl, cR cI (b 1) 6 q0, cR cI (b 2) 6 q1, cR cI (b 3) 12 (zcp (fun j => (j : Int)) g3 (roN lt))]) (fun u => rfl) (fun hPc hDc => zrunV (As := []) (rest := []) (q0 := 0) (ci := 4) K k_X4_layFirst qm_X4_92 ⟨⟨rfl, rfl⟩, ⟨Nat.le_of_ble_eq_true rfl, Nat.le_of_ble_eq_true rfl⟩⟩ rfl rfl hPc hDc (c_X4_layFirst l D cI h b pm (roN lt) (roK pm) d rr hd sm kr kq ku s0 s1 s2 s3 s4 s5 hs g3 (by first | assumption | omega) _) rfl hl.1 rfl (Nat.le_of_ble_eq_true rfl) dX4_routine_125 ⟨Nat.zero_le _, Nat.zero_le _⟩) (by decide) (fun u H locs hpost hP hD hS => ?_)
              have hP : va_P D cls [cM h b ((pm : Nat) : Int) ((roN lt : Nat) : Int) ((roK pm : Nat) : Int) ((d : Nat) : Int) ((rr : Nat) : Int) ((hd : Nat) : Int) ((sm : Nat) : Int) kr kq ku s0 s1 s2 s3 s4 s5 hs, cR cI (b 0) 22 gl, cR cI (b 1) 6 q0, cR cI (b 2) 6 q1, cR cI (b 3) 12 (zcp (fun j => (j : Int)) g3 (roN lt))] H := hP
              have hD : va_D (va_A [cM h b ((pm : Nat) : Int) ((n : Nat) : Int) ((k : Nat) : Int) ((d : Nat) : Int) ((rr : Nat) : Int) ((hd : Nat) : Int) ((sm : Nat) : Int) kr kq ku s0 s1 s2 s3 s4 s5 hs, cR cI (b 0) 22 gl, cR cI (b 1) 6 g0, cR cI (b 2) 6 g1, cR cI (b 3) 12 g3] sz) [cM h b ((pm : Nat) : Int) ((roN lt : Nat) : Int) ((roK pm : Nat) : Int) ((d : Nat) : Int) ((rr : Nat) : Int) ((hd : Nat) : Int) ((sm : Nat) : Int) kr kq ku s0 s1 s2 s3 s4 s5 hs, cR cI (b 0) 22 gl, cR cI (b 1) 6 q0, cR cI (b 2) 6 q1, cR cI (b 3) 12 (zcp (fun j => (j : Int)) g3 (roN lt))] := hD
              refine lv_aload_n hx hb dX4_routine_128 rfl (lv_at hl 0 rfl) ?_
              refine lv_iconst (v := zI 0) hx hb dX4_routine_129 rfl ?_
              refine va_put (D := D) (ci := 4) (v := .int (zI 0)) (ty := .int) (C := RX4) (T := TX4) (N := 32) hx hb hts inT_X4 tyX4 tyX4_ok nmX4 hown hE.1 hP hD hS 0 rfl rfl 4 (by decide) (hts _ qf_X4_95) (fun _ h9 => h9) rfl (by decide +kernel) rfl rfl (Nat.le_of_ble_eq_true rfl) dX4_routine_130 (fun H locs hP hD hS => ?_)
              have hP : va_P D cls [cM h b ((pm : Nat) : Int) ((roN lt : Nat) : Int) ((roK pm : Nat) : Int) 0 ((rr : Nat) : Int) ((hd : Nat) : Int) ((sm : Nat) : Int) kr kq ku s0 s1 s2 s3 s4 s5 hs, cR cI (b 0) 22 gl, cR cI (b 1) 6 q0, cR cI (b 2) 6 q1, cR cI (b 3) 12 (zcp (fun j => (j : Int)) g3 (roN lt))] H := hP
              have hD : va_D (va_A [cM h b ((pm : Nat) : Int) ((n : Nat) : Int) ((k : Nat) : Int) ((d : Nat) : Int) ((rr : Nat) : Int) ((hd : Nat) : Int) ((sm : Nat) : Int) kr kq ku s0 s1 s2 s3 s4 s5 hs, cR cI (b 0) 22 gl, cR cI (b 1) 6 g0, cR cI (b 2) 6 g1, cR cI (b 3) 12 g3] sz) [cM h b ((pm : Nat) : Int) ((roN lt : Nat) : Int) ((roK pm : Nat) : Int) 0 ((rr : Nat) : Int) ((hd : Nat) : Int) ((sm : Nat) : Int) kr kq ku s0 s1 s2 s3 s4 s5 hs, cR cI (b 0) 22 gl, cR cI (b 1) 6 q0, cR cI (b 2) 6 q1, cR cI (b 3) 12 (zcp (fun j => (j : Int)) g3 (roN lt))] := hD
              refine lv_aload_n hx hb dX4_routine_133 rfl (lv_at hl 0 rfl) ?_
              refine lv_iconst (v := zI 0) hx hb dX4_routine_134 rfl ?_
              refine va_put (D := D) (ci := 4) (v := .int (zI 0)) (ty := .int) (C := RX4) (T := TX4) (N := 32) hx hb hts inT_X4 tyX4 tyX4_ok nmX4 hown hE.1 hP hD hS 0 rfl rfl 21 (by decide) (hts _ qf_X4_98) (fun _ h9 => h9) rfl (by decide +kernel) rfl rfl (Nat.le_of_ble_eq_true rfl) dX4_routine_135 (fun H locs hP hD hS => ?_)
              have hP : va_P D cls [cM h b ((pm : Nat) : Int) ((roN lt : Nat) : Int) ((roK pm : Nat) : Int) 0 ((rr : Nat) : Int) ((hd : Nat) : Int) 0 kr kq ku s0 s1 s2 s3 s4 s5 hs, cR cI (b 0) 22 gl, cR cI (b 1) 6 q0, cR cI (b 2) 6 q1, cR cI (b 3) 12 (zcp (fun j => (j : Int)) g3 (roN lt))] H := hP
              have hD : va_D (va_A [cM h b ((pm : Nat) : Int) ((n : Nat) : Int) ((k : Nat) : Int) ((d : Nat) : Int) ((rr : Nat) : Int) ((hd : Nat) : Int) ((sm : Nat) : Int) kr kq ku s0 s1 s2 s3 s4 s5 hs, cR cI (b 0) 22 gl, cR cI (b 1) 6 g0, cR cI (b 2) 6 g1, cR cI (b 3) 12 g3] sz) [cM h b ((pm : Nat) : Int) ((roN lt : Nat) : Int) ((roK pm : Nat) : Int) 0 ((rr : Nat) : Int) ((hd : Nat) : Int) 0 kr kq ku s0 s1 s2 s3 s4 s5 hs, cR cI (b 0) 22 gl, cR cI (b 1) 6 q0, cR cI (b 2) 6 q1, cR cI (b 3) 12 (zcp (fun j => (j : Int)) g3 (roN lt))] := hD
              refine lv_aload_n hx hb dX4_routine_138 rfl (lv_at hl 0 rfl) ?_
              refine lv_dup hx hb dX4_routine_139 rfl ?_
              refine va_get (D := D) (ci := 4) (v := .int (zI ((rr : Nat) : Int))) (C := RX4) (T := TX4) (N := 32) hx hb hts inT_X4 hown hE.1 hP 0 rfl rfl 5 (by decide) (hts _ qf_X4_101) (fun _ h9 => h9) rfl dX4_routine_140 ?_
              refine lv_iconst (v := zI 1) hx hb dX4_routine_143 rfl ?_
              refine z_iadd hx hb (((rr + 1) : Nat) : Int) (by omega) dX4_routine_144 ?_
              refine va_put (D := D) (ci := 4) (v := .int (zI (((rr + 1) : Nat) : Int))) (ty := .int) (C := RX4) (T := TX4) (N := 32) hx hb hts inT_X4 tyX4 tyX4_ok nmX4 hown hE.1 hP hD hS 0 rfl rfl 5 (by decide) (hts _ qf_X4_101) (fun _ h9 => h9) rfl (by decide +kernel) rfl rfl (Nat.le_of_ble_eq_true rfl) dX4_routine_145 (fun H locs hP hD hS => ?_)
              have hP : va_P D cls [cM h b ((pm : Nat) : Int) ((roN lt : Nat) : Int) ((roK pm : Nat) : Int) 0 (((rr + 1) : Nat) : Int) ((hd : Nat) : Int) 0 kr kq ku s0 s1 s2 s3 s4 s5 hs, cR cI (b 0) 22 gl, cR cI (b 1) 6 q0, cR cI (b 2) 6 q1, cR cI (b 3) 12 (zcp (fun j => (j : Int)) g3 (roN lt))] H := hP
              have hD : va_D (va_A [cM h b ((pm : Nat) : Int) ((n : Nat) : Int) ((k : Nat) : Int) ((d : Nat) : Int) ((rr : Nat) : Int) ((hd : Nat) : Int) ((sm : Nat) : Int) kr kq ku s0 s1 s2 s3 s4 s5 hs, cR cI (b 0) 22 gl, cR cI (b 1) 6 g0, cR cI (b 2) 6 g1, cR cI (b 3) 12 g3] sz) [cM h b ((pm : Nat) : Int) ((roN lt : Nat) : Int) ((roK pm : Nat) : Int) 0 (((rr + 1) : Nat) : Int) ((hd : Nat) : Int) 0 kr kq ku s0 s1 s2 s3 s4 s5 hs, cR cI (b 0) 22 gl, cR cI (b 1) 6 q0, cR cI (b 2) 6 q1, cR cI (b 3) 12 (zcp (fun j => (j : Int)) g3 (roN lt))] := hD
              refine lv_aload_n hx hb dX4_routine_148 rfl (lv_at hl 0 rfl) ?_
              refine lv_iconst (v := zI 0) hx hb dX4_routine_149 rfl ?_
              refine va_put (D := D) (ci := 4) (v := .int (zI 0)) (ty := .int) (C := RX4) (T := TX4) (N := 32) hx hb hts inT_X4 tyX4 tyX4_ok nmX4 hown hE.1 hP hD hS 0 rfl rfl 1 (by decide) (hts _ qf_X4_65) (fun _ h9 => h9) rfl (by decide +kernel) rfl rfl (Nat.le_of_ble_eq_true rfl) dX4_routine_150 (fun H locs hP hD hS => ?_)
              have hP : va_P D cls [cM h b 0 ((roN lt : Nat) : Int) ((roK pm : Nat) : Int) 0 (((rr + 1) : Nat) : Int) ((hd : Nat) : Int) 0 kr kq ku s0 s1 s2 s3 s4 s5 hs, cR cI (b 0) 22 gl, cR cI (b 1) 6 q0, cR cI (b 2) 6 q1, cR cI (b 3) 12 (zcp (fun j => (j : Int)) g3 (roN lt))] H := hP
              have hD : va_D (va_A [cM h b ((pm : Nat) : Int) ((n : Nat) : Int) ((k : Nat) : Int) ((d : Nat) : Int) ((rr : Nat) : Int) ((hd : Nat) : Int) ((sm : Nat) : Int) kr kq ku s0 s1 s2 s3 s4 s5 hs, cR cI (b 0) 22 gl, cR cI (b 1) 6 g0, cR cI (b 2) 6 g1, cR cI (b 3) 12 g3] sz) [cM h b 0 ((roN lt : Nat) : Int) ((roK pm : Nat) : Int) 0 (((rr + 1) : Nat) : Int) ((hd : Nat) : Int) 0 kr kq ku s0 s1 s2 s3 s4 s5 hs, cR cI (b 0) 22 gl, cR cI (b 1) 6 q0, cR cI (b 2) 6 q1, cR cI (b 3) 12 (zcp (fun j => (j : Int)) g3 (roN lt))] := hD
              refine lv_aload_n hx hb dX4_routine_153 rfl (lv_at hl 0 rfl) ?_
              refine va_get (D := D) (ci := 4) (v := .int (zI ((roK pm : Nat) : Int))) (C := RX4) (T := TX4) (N := 32) hx hb hts inT_X4 hown hE.1 hP 0 rfl rfl 3 (by decide) (hts _ qf_X4_89) (fun _ h9 => h9) rfl dX4_routine_154 ?_
              rw [← hQf]
              exact z_iret K hS (0, roN lt, roK pm, 0, (rr + 1), 0, q0, q1, (zcp (fun j => (j : Int)) g3 (roN lt))) ⟨(by rw [if_pos hR]), (by (try dsimp only); intro h9; exact absurd hR h9), (by (try dsimp only); intro _; have e9 : i = roK pm := (by omega); rw [e9] at hq0 hq1; exact ⟨rfl, rfl, rfl, rfl, rfl, rfl, fun gq ss sf st => MI_ro hR hq0 hq1 (fun j hj => zcp_lt hj)⟩)⟩ hP hD dX4_routine_157
            · refine lv_aload_n hx hb dX4_routine_80 rfl (lv_at hl 0 rfl) ?_
              refine va_get (D := D) (ci := 4) (v := .ref (b 1)) (C := RX4) (T := TX4) (N := 32) hx hb hts inT_X4 hown hE.1 hP 0 rfl rfl 6 (by decide) (hts _ qf_X4_13) (fun _ h9 => h9) rfl dX4_routine_81 ?_
              refine lv_iload_n hx hb dX4_routine_84 rfl (lv_at hl 1 rfl) ?_
              refine lv_aload_n hx hb dX4_routine_85 rfl (lv_at hl 0 rfl) ?_
              refine va_get (D := D) (ci := 4) (v := .ref (b 0)) (C := RX4) (T := TX4) (N := 32) hx hb hts inT_X4 hown hE.1 hP 0 rfl rfl 0 (by decide) (hts _ qf_X4_7) (fun _ h9 => h9) rfl dX4_routine_86 ?_
              refine lv_iconst (v := zI 3) hx hb dX4_routine_89 rfl ?_
              refine lv_iconst (v := zI 3) hx hb dX4_routine_90 rfl ?_
              refine lv_iload_n hx hb dX4_routine_91 rfl (lv_at hl 1 rfl) ?_
              refine z_imul hx hb (((3 * i) : Nat) : Int) (by first | omega | exact (Int.natCast_mul _ _).symm) dX4_routine_92 ?_
              refine z_iadd hx hb (((3 + 3 * i) : Nat) : Int) (by omega) dX4_routine_93 ?_
              have hlk := hlt (3 + 3 * i) (by omega)
              have hln := hlt (4 + 3 * i) (by omega)
              have hk1 := rOk_κ hR (show i < roK pm by omega)
              have hn1 := rOk_ν hR (show i < roK pm by omega)
              refine z_iald hx hb hE hP 1 rfl (3 + 3 * i) (by omega) (by omega) (by first | decide | omega) ((lt (3 + 3 * i) : Nat) : Int) (hgl (3 + 3 * i) (by omega)) dX4_routine_94 ?_
              refine zcall_i (wc := []) (wr := [cM h b ((pm : Nat) : Int) ((roN lt : Nat) : Int) ((roK pm : Nat) : Int) ((d : Nat) : Int) ((rr : Nat) : Int) ((hd : Nat) : Int) ((sm : Nat) : Int) kr kq ku s0 s1 s2 s3 s4 s5 hs, cR cI (b 0) 22 gl, cR cI (b 1) 6 q0, cR cI (b 2) 6 q1, cR cI (b 3) 12 g3]) (rest := [.int (zI ((i : Nat) : Int)), .ref (b 1)]) hE hP hD hS hA [] [0, 1, 2, 3, 4] [0, 1, 2, 3, 4] rfl rfl (by decide) (by decide) (by decide) (fun (u : Unit) => [cM h b ((pm : Nat) : Int) ((roN lt : Nat) : Int) ((roK pm : Nat) : Int) ((d : Nat) : Int) ((rr : Nat) : Int) ((hd : Nat) : Int) ((sm : Nat) : Int) kr kq ku s0 s1 s2 s3 s4 s5 hs, cR cI (b 0) 22 gl, cR cI (b 1) 6 q0, cR cI (b 2) 6 q1, cR cI (b 3) 12 g3]) (fun u => rfl) (fun hPc hDc => zrunS (As := [.int (zI ((lt (3 + 3 * i) : Nat) : Int))]) (rest := [.int (zI ((i : Nat) : Int)), .ref (b 1)]) K k_X4_kindBy qm_X4_74 ⟨⟨rfl, rfl⟩, ⟨Nat.le_of_ble_eq_true rfl, Nat.le_of_ble_eq_true rfl⟩⟩ hPc hDc (c_X4_kindBy l D cI ((lt (3 + 3 * i) : Nat) : Int) (by first | assumption | omega) _) rfl hl.1 rfl (Nat.le_of_ble_eq_true rfl) dX4_routine_95 ⟨Nat.zero_le _, Nat.zero_le _⟩) (by decide) (fun z u H locs hpost hP hD hS => ?_)
              subst hpost
              have hP : va_P D cls [cM h b ((pm : Nat) : Int) ((roN lt : Nat) : Int) ((roK pm : Nat) : Int) ((d : Nat) : Int) ((rr : Nat) : Int) ((hd : Nat) : Int) ((sm : Nat) : Int) kr kq ku s0 s1 s2 s3 s4 s5 hs, cR cI (b 0) 22 gl, cR cI (b 1) 6 q0, cR cI (b 2) 6 q1, cR cI (b 3) 12 g3] H := hP
              have hD : va_D (va_A [cM h b ((pm : Nat) : Int) ((n : Nat) : Int) ((k : Nat) : Int) ((d : Nat) : Int) ((rr : Nat) : Int) ((hd : Nat) : Int) ((sm : Nat) : Int) kr kq ku s0 s1 s2 s3 s4 s5 hs, cR cI (b 0) 22 gl, cR cI (b 1) 6 g0, cR cI (b 2) 6 g1, cR cI (b 3) 12 g3] sz) [cM h b ((pm : Nat) : Int) ((roN lt : Nat) : Int) ((roK pm : Nat) : Int) ((d : Nat) : Int) ((rr : Nat) : Int) ((hd : Nat) : Int) ((sm : Nat) : Int) kr kq ku s0 s1 s2 s3 s4 s5 hs, cR cI (b 0) 22 gl, cR cI (b 1) 6 q0, cR cI (b 2) 6 q1, cR cI (b 3) 12 g3] := hD
              refine W.eq (g2 := F0 m 98 ls [.int (zI (kdB ((lt (3 + 3 * i) : Nat) : Int))), .int (zI ((i : Nat) : Int)), .ref (b 1)]) rfl ?_
              refine W.eq (g2 := F0 m 98 ls [.int (zI ((roκ lt i : Nat) : Int)), .int (zI ((i : Nat) : Int)), .ref (b 1)]) (by rw [show ((kdB ((lt (3 + 3 * i) : Nat) : Int)) : Int) = ((roκ lt i : Nat) : Int) from by exact hk1.1]) ?_
              refine z_iast hx hb hE hP hD hS 2 rfl i (by omega) (by omega) (by first | decide | omega) (zup q0 i ((roκ lt i : Nat) : Int)) rfl dX4_routine_98 (fun H locs hP hD hS => ?_)
              have hP : va_P D cls [cM h b ((pm : Nat) : Int) ((roN lt : Nat) : Int) ((roK pm : Nat) : Int) ((d : Nat) : Int) ((rr : Nat) : Int) ((hd : Nat) : Int) ((sm : Nat) : Int) kr kq ku s0 s1 s2 s3 s4 s5 hs, cR cI (b 0) 22 gl, cR cI (b 1) 6 (zup q0 i ((roκ lt i : Nat) : Int)), cR cI (b 2) 6 q1, cR cI (b 3) 12 g3] H := hP
              have hD : va_D (va_A [cM h b ((pm : Nat) : Int) ((n : Nat) : Int) ((k : Nat) : Int) ((d : Nat) : Int) ((rr : Nat) : Int) ((hd : Nat) : Int) ((sm : Nat) : Int) kr kq ku s0 s1 s2 s3 s4 s5 hs, cR cI (b 0) 22 gl, cR cI (b 1) 6 g0, cR cI (b 2) 6 g1, cR cI (b 3) 12 g3] sz) [cM h b ((pm : Nat) : Int) ((roN lt : Nat) : Int) ((roK pm : Nat) : Int) ((d : Nat) : Int) ((rr : Nat) : Int) ((hd : Nat) : Int) ((sm : Nat) : Int) kr kq ku s0 s1 s2 s3 s4 s5 hs, cR cI (b 0) 22 gl, cR cI (b 1) 6 (zup q0 i ((roκ lt i : Nat) : Int)), cR cI (b 2) 6 q1, cR cI (b 3) 12 g3] := hD
              refine lv_aload_n hx hb dX4_routine_99 rfl (lv_at hl 0 rfl) ?_
              refine va_get (D := D) (ci := 4) (v := .ref (b 2)) (C := RX4) (T := TX4) (N := 32) hx hb hts inT_X4 hown hE.1 hP 0 rfl rfl 7 (by decide) (hts _ qf_X4_16) (fun _ h9 => h9) rfl dX4_routine_100 ?_
              refine lv_iload_n hx hb dX4_routine_103 rfl (lv_at hl 1 rfl) ?_
              refine lv_aload_n hx hb dX4_routine_104 rfl (lv_at hl 0 rfl) ?_
              refine va_get (D := D) (ci := 4) (v := .ref (b 0)) (C := RX4) (T := TX4) (N := 32) hx hb hts inT_X4 hown hE.1 hP 0 rfl rfl 0 (by decide) (hts _ qf_X4_7) (fun _ h9 => h9) rfl dX4_routine_105 ?_
              refine lv_iconst (v := zI 4) hx hb dX4_routine_108 rfl ?_
              refine lv_iconst (v := zI 3) hx hb dX4_routine_109 rfl ?_
              refine lv_iload_n hx hb dX4_routine_110 rfl (lv_at hl 1 rfl) ?_
              refine z_imul hx hb (((3 * i) : Nat) : Int) (by first | omega | exact (Int.natCast_mul _ _).symm) dX4_routine_111 ?_
              refine z_iadd hx hb (((4 + 3 * i) : Nat) : Int) (by omega) dX4_routine_112 ?_
              refine z_iald hx hb hE hP 1 rfl (4 + 3 * i) (by omega) (by omega) (by first | decide | omega) ((lt (4 + 3 * i) : Nat) : Int) (hgl (4 + 3 * i) (by omega)) dX4_routine_113 ?_
              refine lv_bipush (v := zI 48) hx hb dX4_routine_114 (by decide) ?_
              refine z_isub hx hb ((roν lt i : Nat) : Int) (by exact hn1.1) dX4_routine_116 ?_
              refine z_iast hx hb hE hP hD hS 3 rfl i (by omega) (by omega) (by first | decide | omega) (zup q1 i ((roν lt i : Nat) : Int)) rfl dX4_routine_117 (fun H locs hP hD hS => ?_)
              have hP : va_P D cls [cM h b ((pm : Nat) : Int) ((roN lt : Nat) : Int) ((roK pm : Nat) : Int) ((d : Nat) : Int) ((rr : Nat) : Int) ((hd : Nat) : Int) ((sm : Nat) : Int) kr kq ku s0 s1 s2 s3 s4 s5 hs, cR cI (b 0) 22 gl, cR cI (b 1) 6 (zup q0 i ((roκ lt i : Nat) : Int)), cR cI (b 2) 6 (zup q1 i ((roν lt i : Nat) : Int)), cR cI (b 3) 12 g3] H := hP
              have hD : va_D (va_A [cM h b ((pm : Nat) : Int) ((n : Nat) : Int) ((k : Nat) : Int) ((d : Nat) : Int) ((rr : Nat) : Int) ((hd : Nat) : Int) ((sm : Nat) : Int) kr kq ku s0 s1 s2 s3 s4 s5 hs, cR cI (b 0) 22 gl, cR cI (b 1) 6 g0, cR cI (b 2) 6 g1, cR cI (b 3) 12 g3] sz) [cM h b ((pm : Nat) : Int) ((roN lt : Nat) : Int) ((roK pm : Nat) : Int) ((d : Nat) : Int) ((rr : Nat) : Int) ((hd : Nat) : Int) ((sm : Nat) : Int) kr kq ku s0 s1 s2 s3 s4 s5 hs, cR cI (b 0) 22 gl, cR cI (b 1) 6 (zup q0 i ((roκ lt i : Nat) : Int)), cR cI (b 2) 6 (zup q1 i ((roν lt i : Nat) : Int)), cR cI (b 3) 12 g3] := hD
              refine z_iinc (k := 1) (lv' := [(1, .int (zI (((i + 1) : Nat) : Int))), (0, .ref h)]) hx hb (((i + 1) : Nat) : Int) (by omega) dX4_routine_118 hl rfl (by decide) rfl (fun ls hl => ?_)
              refine lv_goto (tgt := 72) hx hb dX4_routine_121 (by decide) ?_
              exact ih_72 (i + 1) (zup q0 i ((roκ lt i : Nat) : Int)) (zup q1 i ((roν lt i : Nat) : Int)) (by omega) (by omega) (by intro j hj; rcases Nat.lt_or_ge j i with h1 | h1; rw [zup_n (by omega)]; exact hq0 j h1; rw [show j = i by omega, zup_s]) (by intro j hj; rcases Nat.lt_or_ge j i with h1 | h1; rw [zup_n (by omega)]; exact hq1 j h1; rw [show j = i by omega, zup_s]) _ _ _ hP hD hS (lv_sub hl [1, 0] rfl)
        exact cut_72 (roK pm - 0 + 1) 0 g0 g1 (Nat.lt_succ_self _) (by omega) (by intro j hj; omega) (by intro j hj; omega) _ _ _ hP hD hS (lv_sub hl [1, 0] rfl)
      · refine lv_bipush (v := zI (-103)) hx hb dX4_routine_29 (by decide) ?_
        rw [← hQf]
        exact z_iret K hS (pm, n, k, d, rr, sm, g0, g1, g3) ⟨(by rw [if_neg (by unfold rOk; omega)]), (by (try dsimp only); intro _; exact ⟨rfl, rfl, rfl, rfl, rfl, rfl, rfl, rfl, rfl⟩), (by (try dsimp only); intro h9; exfalso; unfold rOk at h9; omega)⟩ hP hD dX4_routine_31
