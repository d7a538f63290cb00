set_option maxHeartbeats 4000000 in
set_option maxRecDepth 100000 in
theorem c_J0_coder_7d493 (l : Launch) (D : va_G) (cI : ClassId) (aK aV : Nat)  : zMiX l yJ0_coder_7d493 cJ0_coder_7d493 1 (some .byte) ({ frames := 0, cells := 0, slots := 0, locals := 0 }) D cI aK aV [.ref aK] [] (fun (z : Int) (u : Unit) => z = 0) (fun (u : Unit) => []) := by
  intro sz
  refine zstartX rfl (by decide) (Nat.le_of_ble_eq_true rfl) ?_
  intro p e s m below meth c ls K hnm hsz hP hD hS hl hX
  generalize hargs : ([.ref aK] : List Value).toArray = args at K ⊢
  generalize hQf : MQ below _ args s _ _ _ = Qf
  have K : zK p s m args meth c cJ0_coder_7d493 1 RJ0 (some .byte) D cI := K
  obtain ⟨hx, hb, hml, hown, hts, hE, -, -⟩ := id K
  have hA := zhA (ws0 := []) hsz
  have hl : lv_has ls 1 [(0, .ref aK)] := hl
  refine va_gets hx hb hX.2.1 hS hown (hts _ qf_J0_38) (fun _ h9 => h9) dJ0_coder_7d493_0 ?_
  refine z_if_eq (tgt := 13) hx hb (by omega) dJ0_coder_7d493_3 (by decide) (fun c_3 => ?_) (fun c_3 => ?_)
  · exfalso; omega
  · refine lv_aload_n hx hb dJ0_coder_7d493_6 rfl (lv_at hl 0 rfl) ?_
    refine vk_getf hx hb hX.2.2.2.1 hS hown (hts _ qf_J0_15) (fun _ h9 => h9) dJ0_coder_7d493_7 ?_
    refine lv_goto (tgt := 14) hx hb dJ0_coder_7d493_10 (by decide) ?_
    rw [← hQf]
    exact z_yret K hS () (by first | rfl | omega | (split <;> omega)) (by omega) hP hD dJ0_coder_7d493_14
set_option maxHeartbeats 4000000 in
set_option maxRecDepth 100000 in
theorem c_J0_isLatin1_aae02 (l : Launch) (D : va_G) (cI : ClassId) (aK aV : Nat)  : zMiX l yJ0_isLatin1_aae02 cJ0_isLatin1_aae02 1 (some .boolean) ({ frames := 0, cells := 0, slots := 0, locals := 0 }) D cI aK aV [.ref aK] [] (fun (z : Int) (u : Unit) => z = 1) (fun (u : Unit) => []) := by
  intro sz
  refine zstartX rfl (by decide) (Nat.le_of_ble_eq_true rfl) ?_
  intro p e s m below meth c ls K hnm hsz hP hD hS hl hX
  generalize hargs : ([.ref aK] : List Value).toArray = args at K ⊢
  generalize hQf : MQ below _ args s _ _ _ = Qf
  have K : zK p s m args meth c cJ0_isLatin1_aae02 1 RJ0 (some .boolean) D cI := K
  obtain ⟨hx, hb, hml, hown, hts, hE, -, -⟩ := id K
  have hA := zhA (ws0 := []) hsz
  have hl : lv_has ls 1 [(0, .ref aK)] := hl
  refine va_gets hx hb hX.2.1 hS hown (hts _ qf_J0_38) (fun _ h9 => h9) dJ0_isLatin1_aae02_0 ?_
  refine z_if_eq (tgt := 17) hx hb (by omega) dJ0_isLatin1_aae02_3 (by decide) (fun c_3 => ?_) (fun c_3 => ?_)
  · exfalso; omega
  · refine lv_aload_n hx hb dJ0_isLatin1_aae02_6 rfl (lv_at hl 0 rfl) ?_
    refine vk_getf hx hb hX.2.2.2.1 hS hown (hts _ qf_J0_15) (fun _ h9 => h9) dJ0_isLatin1_aae02_7 ?_
    refine z_if_ne (tgt := 17) hx hb (by omega) dJ0_isLatin1_aae02_10 (by decide) (fun c_10 => ?_) (fun c_10 => ?_)
    · exfalso; omega
    · refine lv_iconst (v := zI 1) hx hb dJ0_isLatin1_aae02_13 rfl ?_
      refine lv_goto (tgt := 18) hx hb dJ0_isLatin1_aae02_14 (by decide) ?_
      rw [← hQf]
      exact z_bret K hS () (by first | rfl | omega | (split <;> omega)) (by omega) hP hD dJ0_isLatin1_aae02_18
set_option maxHeartbeats 4000000 in
set_option maxRecDepth 100000 in
theorem c_J0_length_8abf5 (l : Launch) (D : va_G) (cI : ClassId) (aK aV : Nat)  : zMiX l yJ0_length_8abf5 cJ0_length_8abf5 1 (some .int) ({ frames := 1, cells := 0, slots := 0, locals := 20 }) D cI aK aV [.ref aK] [] (fun (z : Int) (u : Unit) => z = 5) (fun (u : Unit) => []) := by
  intro sz
  refine zstartX rfl (by decide) (Nat.le_of_ble_eq_true rfl) ?_
  intro p e s m below meth c ls K hnm hsz hP hD hS hl hX
  generalize hargs : ([.ref aK] : List Value).toArray = args at K ⊢
  generalize hQf : MQ below _ args s _ _ _ = Qf
  have K : zK p s m args meth c cJ0_length_8abf5 1 RJ0 (some .int) D cI := K
  obtain ⟨hx, hb, hml, hown, hts, hE, -, -⟩ := id K
  have hA := zhA (ws0 := []) hsz
  have hl : lv_has ls 1 [(0, .ref aK)] := hl
  refine lv_aload_n hx hb dJ0_length_8abf5_0 rfl (lv_at hl 0 rfl) ?_
  refine vk_getf hx hb hX.2.2.2.2.1 hS hown (hts _ qf_J0_9) (fun _ h9 => h9) dJ0_length_8abf5_1 ?_
  refine z_blen hx hb hX hS dJ0_length_8abf5_4 ?_
  refine lv_aload_n hx hb dJ0_length_8abf5_5 rfl (lv_at hl 0 rfl) ?_
  refine zcall_i (wc := []) (wr := []) (rest := [.int (zI 5)]) hE hP hD hS hA [] [] [] rfl rfl (by decide) (by decide) (by decide) (fun (u : Unit) => []) (fun u => rfl) (fun hPc hDc => zrunVXs (As := []) (rest := [.int (zI 5)]) K k_J0_coder_7d493 qm_J0_335 ⟨⟨rfl, rfl⟩, ⟨Nat.le_of_ble_eq_true rfl, Nat.le_of_ble_eq_true rfl⟩⟩ hX hS (va_free hD hS hA [] rfl) hPc hDc (c_J0_coder_7d493 l D cI aK aV _) rfl hl.1 rfl (Nat.le_of_ble_eq_true rfl) dJ0_length_8abf5_6 ⟨Nat.zero_le _, Nat.zero_le _⟩) (by decide) (fun z u H locs hpost hP hD hS => ?_)
  subst hpost
  have hP : va_P D cls [] H := hP
  have hD : va_D (va_A [] sz) [] := hD
  refine W.eq (g2 := F0 m 9 ls [.int (zI 0), .int (zI 5)]) rfl ?_
  refine z_ishr hx hb 5 (by decide) dJ0_length_8abf5_9 ?_
  rw [← hQf]
  exact z_iret K hS () (by first | rfl | omega | (split <;> omega)) hP hD dJ0_length_8abf5_10
set_option maxHeartbeats 4000000 in
set_option maxRecDepth 100000 in
theorem c_J1_canEncode_9a6ad (l : Launch) (D : va_G) (cI : ClassId) (c0 : Nat) (hc0 : c0 < 128) : zMi l yJ1_canEncode_9a6ad cJ1_canEncode_9a6ad 1 (some .boolean) ({ frames := 0, cells := 0, slots := 0, locals := 0 }) D cI [.int (zI ((c0 : Nat) : Int))] [] (fun (z : Int) (u : Unit) => z = 1) (fun (u : Unit) => []) := by
  intro sz
  refine zstart rfl (by decide) (Nat.le_of_ble_eq_true rfl) ?_
  intro p e s m below meth c ls K hnm hsz hP hD hS hl
  generalize hargs : ([.int (zI ((c0 : Nat) : Int))] : List Value).toArray = args at K ⊢
  generalize hQf : MQ below _ args s _ _ _ = Qf
  have K : zK p s m args meth c cJ1_canEncode_9a6ad 1 RJ1 (some .boolean) D cI := K
  obtain ⟨hx, hb, hml, hown, hts, hE, -, -⟩ := id K
  have hA := zhA (ws0 := []) hsz
  have hl : lv_has ls 1 [(0, .int (zI ((c0 : Nat) : Int)))] := hl
  refine lv_iload_n hx hb dJ1_canEncode_9a6ad_0 rfl (lv_at hl 0 rfl) ?_
  refine z_if_lt (tgt := 15) hx hb (by omega) dJ1_canEncode_9a6ad_1 (by decide) (fun c_1 => ?_) (fun c_1 => ?_)
  · refine lv_iconst (v := zI 0) hx hb dJ1_canEncode_9a6ad_15 rfl ?_
    rw [← hQf]
    exact z_bret K hS () (by first | rfl | omega | (split <;> omega)) (by omega) hP hD dJ1_canEncode_9a6ad_16
  · refine lv_iload_n hx hb dJ1_canEncode_9a6ad_4 rfl (lv_at hl 0 rfl) ?_
    refine lv_sipush (v := zI 255) hx hb dJ1_canEncode_9a6ad_5 (by decide) ?_
    refine z_icmp_gt (tgt := 15) hx hb (by omega) dJ1_canEncode_9a6ad_8 (by decide) (fun c_8 => ?_) (fun c_8 => ?_)
    · refine lv_iconst (v := zI 0) hx hb dJ1_canEncode_9a6ad_15 rfl ?_
      rw [← hQf]
      exact z_bret K hS () (by first | rfl | omega | (split <;> omega)) (by omega) hP hD dJ1_canEncode_9a6ad_16
    · refine lv_iconst (v := zI 1) hx hb dJ1_canEncode_9a6ad_11 rfl ?_
      refine lv_goto (tgt := 16) hx hb dJ1_canEncode_9a6ad_12 (by decide) ?_
      rw [← hQf]
      exact z_bret K hS () (by first | rfl | omega | (split <;> omega)) (by omega) hP hD dJ1_canEncode_9a6ad_16
set_option maxHeartbeats 4000000 in
set_option maxRecDepth 100000 in
theorem c_J1_indexOfChar_4cfef (l : Launch) (D : va_G) (cI : ClassId) (aK aV : Nat) (c0 : Nat) (hc0 : c0 < 128) : zMiX l yJ1_indexOfChar_4cfef cJ1_indexOfChar_4cfef 6 (some .int) ({ frames := 0, cells := 0, slots := 0, locals := 0 }) D cI aK aV [.ref aV, .int (zI ((c0 : Nat) : Int)), .int (zI 0), .int (zI 5)] [] (fun (z : Int) (u : Unit) => z = (kdB ((c0 : Nat) : Int))) (fun (u : Unit) => []) := by
  intro sz
  refine zstartX rfl (by decide) (Nat.le_of_ble_eq_true rfl) ?_
  intro p e s m below meth c ls K hnm hsz hP hD hS hl hX
  generalize hargs : ([.ref aV, .int (zI ((c0 : Nat) : Int)), .int (zI 0), .int (zI 5)] : List Value).toArray = args at K ⊢
  generalize hQf : MQ below _ args s _ _ _ = Qf
  have K : zK p s m args meth c cJ1_indexOfChar_4cfef 6 RJ1 (some .int) D cI := K
  obtain ⟨hx, hb, hml, hown, hts, hE, -, -⟩ := id K
  have hA := zhA (ws0 := []) hsz
  have hl : lv_has ls 6 [(0, .ref aV), (1, .int (zI ((c0 : Nat) : Int))), (2, .int (zI 0)), (3, .int (zI 5))] := hl
  refine lv_iload_n hx hb dJ1_indexOfChar_4cfef_0 rfl (lv_at hl 1 rfl) ?_
  refine z_i2b hx hb c0 ⟨by first | rfl | omega, by omega⟩ dJ1_indexOfChar_4cfef_1 ?_
  refine lv_istore (lv' := [(4, .int (zI ((c0 : Nat) : Int))), (0, .ref aV), (1, .int (zI ((c0 : Nat) : Int))), (2, .int (zI 0)), (3, .int (zI 5))]) hx hb dJ1_indexOfChar_4cfef_2 hl (by decide) rfl (fun ls hl => ?_)
  refine lv_iload_n hx hb dJ1_indexOfChar_4cfef_4 rfl (lv_at hl 3 rfl) ?_
  refine lv_istore (lv' := [(5, .int (zI 0)), (4, .int (zI ((c0 : Nat) : Int))), (0, .ref aV), (1, .int (zI ((c0 : Nat) : Int))), (2, .int (zI 0)), (3, .int (zI 5))]) hx hb dJ1_indexOfChar_4cfef_5 hl (by decide) rfl (fun ls hl => ?_)
  have cut_7 : ∀ (N_7 : Nat), ∀ (i : Nat), 5 - i < N_7 → (i ≤ 5) → (∀ j, j < i → zby j ≠ ((c0 : Nat) : Int)) → ∀ (H : Heap) (locs : List Loc) (ls : Array Slot), va_P D cls [] H → va_D (va_A [] sz) [] → va_S (va_A [] sz) s.heap H locs → lv_has ls 6 [(0, .ref aV), (1, .int (zI ((c0 : Nat) : Int))), (2, .int (zI 0)), (3, .int (zI 5)), (4, .int (zI ((c0 : Nat) : Int))), (5, .int (zI ((i : Nat) : Int)))] → W p l e ({ frames := 0, cells := 0, slots := 0, locals := 0 }) s m args below meth c H locs 0 0 Qf (F0 m 7 ls []) := by
    intro N_7
    induction N_7 with
    | zero => intro i hm_7; exact absurd hm_7 (Nat.not_lt_zero _)
    | succ N_7 ih_7 =>
      intro i hm_7 hi hn H locs ls hP hD hS hl
      refine lv_iload hx hb dJ1_indexOfChar_4cfef_7 (lv_at hl 5 rfl) ?_
      refine lv_iload_n hx hb dJ1_indexOfChar_4cfef_9 rfl (lv_at hl 3 rfl) ?_
      refine z_icmp_ge (tgt := 31) hx hb (by omega) dJ1_indexOfChar_4cfef_10 (by decide) (fun c_10 => ?_) (fun c_10 => ?_)
      · refine lv_iconst (v := zI (-1)) hx hb dJ1_indexOfChar_4cfef_31 rfl ?_
        rw [← hQf]
        exact z_iret K hS () (by exact (kd_miss (fun j hj => hn j (by omega))).symm) hP hD dJ1_indexOfChar_4cfef_32
      · refine lv_aload_n hx hb dJ1_indexOfChar_4cfef_13 rfl (lv_at hl 0 rfl) ?_
        refine lv_iload hx hb dJ1_indexOfChar_4cfef_14 (lv_at hl 5 rfl) ?_
        refine z_bald hx hb hX hS i (by omega) dJ1_indexOfChar_4cfef_16 ?_
        refine lv_iload hx hb dJ1_indexOfChar_4cfef_17 (lv_at hl 4 rfl) ?_
        refine z_icmp_ne (tgt := 25) hx hb (by have := zby_r i; omega) dJ1_indexOfChar_4cfef_19 (by decide) (fun c_19 => ?_) (fun c_19 => ?_)
        · refine z_iinc (k := 5) (lv' := [(5, .int (zI (((i + 1) : Nat) : Int))), (0, .ref aV), (1, .int (zI ((c0 : Nat) : Int))), (2, .int (zI 0)), (3, .int (zI 5)), (4, .int (zI ((c0 : Nat) : Int)))]) hx hb (((i + 1) : Nat) : Int) (by omega) dJ1_indexOfChar_4cfef_25 hl rfl (by decide) rfl (fun ls hl => ?_)
          refine lv_goto (tgt := 7) hx hb dJ1_indexOfChar_4cfef_28 (by decide) ?_
          exact ih_7 (i + 1) (by omega) (by omega) (by intro j hj; rcases Nat.lt_or_ge j i with h1 | h1; exact hn j h1; rw [show j = i by omega]; exact c_19) _ _ _ hP hD hS (lv_sub hl [1, 2, 3, 4, 5, 0] rfl)
        · refine lv_iload hx hb dJ1_indexOfChar_4cfef_22 (lv_at hl 5 rfl) ?_
          rw [← hQf]
          exact z_iret K hS () (by exact (kd_hit (by omega) c_19).symm) hP hD dJ1_indexOfChar_4cfef_24
  exact cut_7 (5 - 0 + 1) 0 (Nat.lt_succ_self _) (by omega) (by intro j hj; omega) _ _ _ hP hD hS (lv_sub hl [2, 3, 4, 5, 1, 0] rfl)
set_option maxHeartbeats 4000000 in
set_option maxRecDepth 100000 in
theorem c_J1_indexOf_4cfef (l : Launch) (D : va_G) (cI : ClassId) (aK aV : Nat) (c0 : Nat) (hc0 : c0 < 128) : zMiX l yJ1_indexOf_4cfef cJ1_indexOf_4cfef 4 (some .int) ({ frames := 1, cells := 0, slots := 0, locals := 25 }) D cI aK aV [.ref aV, .int (zI ((c0 : Nat) : Int)), .int (zI 0), .int (zI 5)] [] (fun (z : Int) (u : Unit) => z = (kdB ((c0 : Nat) : Int))) (fun (u : Unit) => []) := by
  intro sz
  refine zstartX rfl (by decide) (Nat.le_of_ble_eq_true rfl) ?_
  intro p e s m below meth c ls K hnm hsz hP hD hS hl hX
  generalize hargs : ([.ref aV, .int (zI ((c0 : Nat) : Int)), .int (zI 0), .int (zI 5)] : List Value).toArray = args at K ⊢
  generalize hQf : MQ below _ args s _ _ _ = Qf
  have K : zK p s m args meth c cJ1_indexOf_4cfef 4 RJ1 (some .int) D cI := K
  obtain ⟨hx, hb, hml, hown, hts, hE, -, -⟩ := id K
  have hA := zhA (ws0 := []) hsz
  have hl : lv_has ls 4 [(0, .ref aV), (1, .int (zI ((c0 : Nat) : Int))), (2, .int (zI 0)), (3, .int (zI 5))] := hl
  refine lv_iload_n hx hb dJ1_indexOf_4cfef_0 rfl (lv_at hl 1 rfl) ?_
  refine zcall_i (wc := []) (wr := []) (rest := []) hE hP hD hS hA [] [] [] rfl rfl (by decide) (by decide) (by decide) (fun (u : Unit) => []) (fun u => rfl) (fun hPc hDc => zrunS (As := [.int (zI ((c0 : Nat) : Int))]) (rest := []) K k_J1_canEncode_9a6ad qm_J1_88 ⟨⟨rfl, rfl⟩, ⟨Nat.le_of_ble_eq_true rfl, Nat.le_of_ble_eq_true rfl⟩⟩ hPc hDc (c_J1_canEncode_9a6ad l D cI c0 (by first | assumption | omega) _) rfl hl.1 rfl (Nat.le_of_ble_eq_true rfl) dJ1_indexOf_4cfef_1 ⟨Nat.zero_le _, Nat.zero_le _⟩) (by decide) (fun z u H locs hpost hP hD hS => ?_)
  subst hpost
  have hP : va_P D cls [] H := hP
  have hD : va_D (va_A [] sz) [] := hD
  refine W.eq (g2 := F0 m 4 ls [.int (zI 1)]) rfl ?_
  refine z_if_ne (tgt := 9) hx hb (by omega) dJ1_indexOf_4cfef_4 (by decide) (fun c_4 => ?_) (fun c_4 => ?_)
  · refine lv_iload_n hx hb dJ1_indexOf_4cfef_9 rfl (lv_at hl 2 rfl) ?_
    refine lv_iconst (v := zI 0) hx hb dJ1_indexOf_4cfef_10 rfl ?_
    refine z_Mmax hx hb (by rw [hml]; exact hl.1.symm) hown (hts _ qm_J1_92) (hts _ qs_Mmax) (hts _ qn_Math) (hts _ qc_Mmax) (by decide) (Nat.le_of_ble_eq_true rfl) (by decide) (by decide) (by omega) 0 (by rfl) dJ1_indexOf_4cfef_11 ?_
    refine lv_istore_n (lv' := [(2, .int (zI 0)), (0, .ref aV), (1, .int (zI ((c0 : Nat) : Int))), (3, .int (zI 5))]) hx hb dJ1_indexOf_4cfef_14 rfl hl (by decide) rfl (fun ls hl => ?_)
    refine lv_iload_n hx hb dJ1_indexOf_4cfef_15 rfl (lv_at hl 3 rfl) ?_
    refine lv_aload_n hx hb dJ1_indexOf_4cfef_16 rfl (lv_at hl 1 rfl) ?_
    refine z_blen hx hb hX hS dJ1_indexOf_4cfef_17 ?_
    refine z_Mmin hx hb (by rw [hml]; exact hl.1.symm) hown (hts _ qm_J1_38) (hts _ qs_Mmin) (hts _ qn_Math) (hts _ qc_Mmin) (by decide) (Nat.le_of_ble_eq_true rfl) (by decide) (by decide) (by omega) 5 (by rfl) dJ1_indexOf_4cfef_18 ?_
    refine lv_istore_n (lv' := [(3, .int (zI 5)), (2, .int (zI 0)), (0, .ref aV), (1, .int (zI ((c0 : Nat) : Int)))]) hx hb dJ1_indexOf_4cfef_21 rfl hl (by decide) rfl (fun ls hl => ?_)
    refine lv_iload_n hx hb dJ1_indexOf_4cfef_22 rfl (lv_at hl 1 rfl) ?_
    refine lv_iload_n hx hb dJ1_indexOf_4cfef_23 rfl (lv_at hl 0 rfl) ?_
    refine z_icmp_lt (tgt := 29) hx hb (by omega) dJ1_indexOf_4cfef_24 (by decide) (fun c_24 => ?_) (fun c_24 => ?_)
    · refine lv_aload_n hx hb dJ1_indexOf_4cfef_29 rfl (lv_at hl 2 rfl) ?_
      refine lv_iload_n hx hb dJ1_indexOf_4cfef_30 rfl (lv_at hl 3 rfl) ?_
      refine lv_iload_n hx hb dJ1_indexOf_4cfef_31 rfl (lv_at hl 1 rfl) ?_
      refine lv_iload_n hx hb dJ1_indexOf_4cfef_32 rfl (lv_at hl 0 rfl) ?_
      refine zcall_i (wc := []) (wr := []) (rest := []) hE hP hD hS hA [] [] [] rfl rfl (by decide) (by decide) (by decide) (fun (u : Unit) => []) (fun u => rfl) (fun hPc hDc => zrunSX (As := [.ref aV, .int (zI ((c0 : Nat) : Int)), .int (zI 0), .int (zI 5)]) (rest := []) K k_J1_indexOfChar_4cfef qm_J1_95 ⟨⟨rfl, rfl⟩, ⟨Nat.le_of_ble_eq_true rfl, Nat.le_of_ble_eq_true rfl⟩⟩ hX hS (va_free hD hS hA [] rfl) hPc hDc (c_J1_indexOfChar_4cfef l D cI aK aV c0 (by first | assumption | omega) _) rfl hl.1 rfl (Nat.le_of_ble_eq_true rfl) dJ1_indexOf_4cfef_33 ⟨Nat.zero_le _, Nat.zero_le _⟩) (by decide) (fun z u H locs hpost hP hD hS => ?_)
      subst hpost
      have hP : va_P D cls [] H := hP
      have hD : va_D (va_A [] sz) [] := hD
      refine W.eq (g2 := F0 m 36 ls [.int (zI (kdB ((c0 : Nat) : Int)))]) rfl ?_
      rw [← hQf]
      exact z_iret K hS () (by first | rfl | omega | (split <;> omega)) hP hD dJ1_indexOf_4cfef_36
    · exfalso; omega
  · exfalso; omega
set_option maxHeartbeats 4000000 in
set_option maxRecDepth 100000 in
theorem c_J0_indexOf_7cf53 (l : Launch) (D : va_G) (cI : ClassId) (aK aV : Nat) (c0 : Nat) (hc0 : c0 < 128) : zMiX l yJ0_indexOf_7cf53 cJ0_indexOf_7cf53 3 (some .int) ({ frames := 2, cells := 0, slots := 0, locals := 48 }) D cI aK aV [.ref aK, .int (zI ((c0 : Nat) : Int)), .int (zI 0)] [] (fun (z : Int) (u : Unit) => z = (kdB ((c0 : Nat) : Int))) (fun (u : Unit) => []) := by
  intro sz
  refine zstartX rfl (by decide) (Nat.le_of_ble_eq_true rfl) ?_
  intro p e s m below meth c ls K hnm hsz hP hD hS hl hX
  generalize hargs : ([.ref aK, .int (zI ((c0 : Nat) : Int)), .int (zI 0)] : List Value).toArray = args at K ⊢
  generalize hQf : MQ below _ args s _ _ _ = Qf
  have K : zK p s m args meth c cJ0_indexOf_7cf53 3 RJ0 (some .int) D cI := K
  obtain ⟨hx, hb, hml, hown, hts, hE, -, -⟩ := id K
  have hA := zhA (ws0 := []) hsz
  have hl : lv_has ls 3 [(0, .ref aK), (1, .int (zI ((c0 : Nat) : Int))), (2, .int (zI 0))] := hl
  refine lv_aload_n hx hb dJ0_indexOf_7cf53_0 rfl (lv_at hl 0 rfl) ?_
  refine zcall_i (wc := []) (wr := []) (rest := []) hE hP hD hS hA [] [] [] rfl rfl (by decide) (by decide) (by decide) (fun (u : Unit) => []) (fun u => rfl) (fun hPc hDc => zrunVXs (As := []) (rest := []) K k_J0_isLatin1_aae02 qm_J0_492 ⟨⟨rfl, rfl⟩, ⟨Nat.le_of_ble_eq_true rfl, Nat.le_of_ble_eq_true rfl⟩⟩ hX hS (va_free hD hS hA [] rfl) hPc hDc (c_J0_isLatin1_aae02 l D cI aK aV _) rfl hl.1 rfl (Nat.le_of_ble_eq_true rfl) dJ0_indexOf_7cf53_1 ⟨Nat.zero_le _, Nat.zero_le _⟩) (by decide) (fun z u H locs hpost hP hD hS => ?_)
  subst hpost
  have hP : va_P D cls [] H := hP
  have hD : va_D (va_A [] sz) [] := hD
  refine W.eq (g2 := F0 m 4 ls [.int (zI 1)]) rfl ?_
  refine z_if_eq (tgt := 23) hx hb (by omega) dJ0_indexOf_7cf53_4 (by decide) (fun c_4 => ?_) (fun c_4 => ?_)
  · exfalso; omega
  · refine lv_aload_n hx hb dJ0_indexOf_7cf53_7 rfl (lv_at hl 0 rfl) ?_
    refine vk_getf hx hb hX.2.2.2.2.1 hS hown (hts _ qf_J0_9) (fun _ h9 => h9) dJ0_indexOf_7cf53_8 ?_
    refine lv_iload_n hx hb dJ0_indexOf_7cf53_11 rfl (lv_at hl 1 rfl) ?_
    refine lv_iload_n hx hb dJ0_indexOf_7cf53_12 rfl (lv_at hl 2 rfl) ?_
    refine lv_aload_n hx hb dJ0_indexOf_7cf53_13 rfl (lv_at hl 0 rfl) ?_
    refine zcall_i (wc := []) (wr := []) (rest := [.int (zI 0), .int (zI ((c0 : Nat) : Int)), .ref aV]) hE hP hD hS hA [] [] [] rfl rfl (by decide) (by decide) (by decide) (fun (u : Unit) => []) (fun u => rfl) (fun hPc hDc => zrunVXs (As := []) (rest := [.int (zI 0), .int (zI ((c0 : Nat) : Int)), .ref aV]) K k_J0_length_8abf5 qm_J0_505 ⟨⟨rfl, rfl⟩, ⟨Nat.le_of_ble_eq_true rfl, Nat.le_of_ble_eq_true rfl⟩⟩ hX hS (va_free hD hS hA [] rfl) hPc hDc (c_J0_length_8abf5 l D cI aK aV _) rfl hl.1 rfl (Nat.le_of_ble_eq_true rfl) dJ0_indexOf_7cf53_14 ⟨Nat.zero_le _, Nat.zero_le _⟩) (by decide) (fun z u H locs hpost hP hD hS => ?_)
    subst hpost
    have hP : va_P D cls [] H := hP
    have hD : va_D (va_A [] sz) [] := hD
    refine W.eq (g2 := F0 m 17 ls [.int (zI 5), .int (zI 0), .int (zI ((c0 : Nat) : Int)), .ref aV]) rfl ?_
    refine zcall_i (wc := []) (wr := []) (rest := []) hE hP hD hS hA [] [] [] rfl rfl (by decide) (by decide) (by decide) (fun (u : Unit) => []) (fun u => rfl) (fun hPc hDc => zrunSX (As := [.ref aV, .int (zI ((c0 : Nat) : Int)), .int (zI 0), .int (zI 5)]) (rest := []) K k_J1_indexOf_4cfef qm_J0_637 ⟨⟨rfl, rfl⟩, ⟨Nat.le_of_ble_eq_true rfl, Nat.le_of_ble_eq_true rfl⟩⟩ hX hS (va_free hD hS hA [] rfl) hPc hDc (c_J1_indexOf_4cfef l D cI aK aV c0 (by first | assumption | omega) _) rfl hl.1 rfl (Nat.le_of_ble_eq_true rfl) dJ0_indexOf_7cf53_17 ⟨Nat.zero_le _, Nat.zero_le _⟩) (by decide) (fun z u H locs hpost hP hD hS => ?_)
    subst hpost
    have hP : va_P D cls [] H := hP
    have hD : va_D (va_A [] sz) [] := hD
    refine W.eq (g2 := F0 m 20 ls [.int (zI (kdB ((c0 : Nat) : Int)))]) rfl ?_
    refine lv_goto (tgt := 36) hx hb dJ0_indexOf_7cf53_20 (by decide) ?_
    rw [← hQf]
    exact z_iret K hS () (by first | rfl | omega | (split <;> omega)) hP hD dJ0_indexOf_7cf53_36
set_option maxHeartbeats 4000000 in
set_option maxRecDepth 100000 in
theorem c_J0_indexOf_0f7a4 (l : Launch) (D : va_G) (cI : ClassId) (aK aV : Nat) (c0 : Nat) (hc0 : c0 < 128) : zMiX l yJ0_indexOf_0f7a4 cJ0_indexOf_0f7a4 2 (some .int) ({ frames := 3, cells := 0, slots := 0, locals := 70 }) D cI aK aV [.ref aK, .int (zI ((c0 : Nat) : Int))] [] (fun (z : Int) (u : Unit) => z = (kdB ((c0 : Nat) : Int))) (fun (u : Unit) => []) := by
  intro sz
  refine zstartX rfl (by decide) (Nat.le_of_ble_eq_true rfl) ?_
  intro p e s m below meth c ls K hnm hsz hP hD hS hl hX
  generalize hargs : ([.ref aK, .int (zI ((c0 : Nat) : Int))] : List Value).toArray = args at K ⊢
  generalize hQf : MQ below _ args s _ _ _ = Qf
  have K : zK p s m args meth c cJ0_indexOf_0f7a4 2 RJ0 (some .int) D cI := K
  obtain ⟨hx, hb, hml, hown, hts, hE, -, -⟩ := id K
  have hA := zhA (ws0 := []) hsz
  have hl : lv_has ls 2 [(0, .ref aK), (1, .int (zI ((c0 : Nat) : Int)))] := hl
  refine lv_aload_n hx hb dJ0_indexOf_0f7a4_0 rfl (lv_at hl 0 rfl) ?_
  refine lv_iload_n hx hb dJ0_indexOf_0f7a4_1 rfl (lv_at hl 1 rfl) ?_
  refine lv_iconst (v := zI 0) hx hb dJ0_indexOf_0f7a4_2 rfl ?_
  refine zcall_i (wc := []) (wr := []) (rest := []) hE hP hD hS hA [] [] [] rfl rfl (by decide) (by decide) (by decide) (fun (u : Unit) => []) (fun u => rfl) (fun hPc hDc => zrunVXs (As := [.int (zI ((c0 : Nat) : Int)), .int (zI 0)]) (rest := []) K k_J0_indexOf_7cf53 qm_J0_633 ⟨⟨rfl, rfl⟩, ⟨Nat.le_of_ble_eq_true rfl, Nat.le_of_ble_eq_true rfl⟩⟩ hX hS (va_free hD hS hA [] rfl) hPc hDc (c_J0_indexOf_7cf53 l D cI aK aV c0 (by first | assumption | omega) _) rfl hl.1 rfl (Nat.le_of_ble_eq_true rfl) dJ0_indexOf_0f7a4_3 ⟨Nat.zero_le _, Nat.zero_le _⟩) (by decide) (fun z u H locs hpost hP hD hS => ?_)
  subst hpost
  have hP : va_P D cls [] H := hP
  have hD : va_D (va_A [] sz) [] := hD
  refine W.eq (g2 := F0 m 6 ls [.int (zI (kdB ((c0 : Nat) : Int)))]) rfl ?_
  rw [← hQf]
  exact z_iret K hS () (by first | rfl | omega | (split <;> omega)) hP hD dJ0_indexOf_0f7a4_6
set_option maxHeartbeats 4000000 in
set_option maxRecDepth 100000 in
theorem c_X0_partOfStep (l : Launch) (D : va_G) (cI : ClassId) (i0 : Nat) (hi0 : 3 ≤ i0) (hi1 : i0 < 100) : zMi l yX0_partOfStep cX0_partOfStep 1 (some .int) ({ frames := 0, cells := 0, slots := 0, locals := 0 }) D cI [.int (zI ((i0 : Nat) : Int))] [] (fun (z : Int) (u : Unit) => z = (((i0 % 3) : Nat) : Int)) (fun (u : Unit) => []) := by
  intro sz
  refine zstart rfl (by decide) (Nat.le_of_ble_eq_true rfl) ?_
  intro p e s m below meth c ls K hnm hsz hP hD hS hl
  generalize hargs : ([.int (zI ((i0 : Nat) : Int))] : List Value).toArray = args at K ⊢
  generalize hQf : MQ below _ args s _ _ _ = Qf
  have K : zK p s m args meth c cX0_partOfStep 1 RX0 (some .int) D cI := K
  obtain ⟨hx, hb, hml, hown, hts, hE, -, -⟩ := id K
  have hA := zhA (ws0 := []) hsz
  have hl : lv_has ls 1 [(0, .int (zI ((i0 : Nat) : Int)))] := hl
  refine lv_iload_n hx hb dX0_partOfStep_0 rfl (lv_at hl 0 rfl) ?_
  refine lv_iconst (v := zI 3) hx hb dX0_partOfStep_1 rfl ?_
  refine z_isub hx hb (((i0 - 3) : Nat) : Int) (by omega) dX0_partOfStep_2 ?_
  refine lv_iconst (v := zI 3) hx hb dX0_partOfStep_3 rfl ?_
  refine z_irem hx hb ((((i0 - 3) % 3) : Nat) : Int) (by omega) rfl dX0_partOfStep_4 ?_
  rw [← hQf]
  exact z_iret K hS () (by first | rfl | omega | (split <;> omega)) hP hD dX0_partOfStep_5
set_option maxHeartbeats 4000000 in
set_option maxRecDepth 100000 in
theorem c_X0_mayStandInStep (l : Launch) (D : va_G) (cI : ClassId) (aK aV : Nat) (p0 c0 : Nat) (hp0 : p0 < 3) (hc0 : c0 < 128) : zMiX l yX0_mayStandInStep cX0_mayStandInStep 2 (some .boolean) ({ frames := 4, cells := 0, slots := 0, locals := 91 }) D cI aK aV [.int (zI ((p0 : Nat) : Int)), .int (zI ((c0 : Nat) : Int))] [] (fun (z : Int) (u : Unit) => z = (b01 ((if p0 = 0 then decide (0 ≤ kdB ((c0 : Nat) : Int)) else if p0 = 1 then decide (48 ≤ c0 ∧ c0 ≤ 57) else decide (c0 = 44)) = true))) (fun (u : Unit) => []) := by
  intro sz
  refine zstartX rfl (by decide) (Nat.le_of_ble_eq_true rfl) ?_
  intro p e s m below meth c ls K hnm hsz hP hD hS hl hX
  generalize hargs : ([.int (zI ((p0 : Nat) : Int)), .int (zI ((c0 : Nat) : Int))] : List Value).toArray = args at K ⊢
  generalize hQf : MQ below _ args s _ _ _ = Qf
  have K : zK p s m args meth c cX0_mayStandInStep 2 RX0 (some .boolean) D cI := K
  obtain ⟨hx, hb, hml, hown, hts, hE, -, -⟩ := id K
  have hA := zhA (ws0 := []) hsz
  have hl : lv_has ls 2 [(0, .int (zI ((p0 : Nat) : Int))), (1, .int (zI ((c0 : Nat) : Int)))] := hl
  refine lv_iload_n hx hb dX0_mayStandInStep_0 rfl (lv_at hl 0 rfl) ?_
  rcases (show ((p0 : Nat) : Int) = 0 ∨ ((p0 : Nat) : Int) = 1 ∨ (((p0 : Nat) : Int) ≠ 0 ∧ ((p0 : Nat) : Int) ≠ 1) by omega) with c_1 | c_1 | c_1
  · refine lv_lookup (off := 27) (tgt := 28) hx hb dX0_mayStandInStep_1 (by decide) (by rw [zI_toInt (by omega), c_1]; first | done | rfl | decide) (by decide) ?_
    refine va_ldcS hx hb hown hX.1 dX0_mayStandInStep_28 ?_
    refine lv_iload_n hx hb dX0_mayStandInStep_30 rfl (lv_at hl 1 rfl) ?_
    refine z_i2c hx hb c0 ⟨by first | rfl | omega, by omega⟩ dX0_mayStandInStep_31 ?_
    refine zcall_i (wc := []) (wr := []) (rest := []) hE hP hD hS hA [] [] [] rfl rfl (by decide) (by decide) (by decide) (fun (u : Unit) => []) (fun u => rfl) (fun hPc hDc => zrunVXs (As := [.int (zI ((c0 : Nat) : Int))]) (rest := []) K k_J0_indexOf_0f7a4 qm_X0_37 ⟨⟨rfl, rfl⟩, ⟨Nat.le_of_ble_eq_true rfl, Nat.le_of_ble_eq_true rfl⟩⟩ hX hS (va_free hD hS hA [] rfl) hPc hDc (c_J0_indexOf_0f7a4 l D cI aK aV c0 (by first | assumption | omega) _) rfl hl.1 rfl (Nat.le_of_ble_eq_true rfl) dX0_mayStandInStep_32 ⟨Nat.zero_le _, Nat.zero_le _⟩) (by decide) (fun z u H locs hpost hP hD hS => ?_)
    subst hpost
    have hP : va_P D cls [] H := hP
    have hD : va_D (va_A [] sz) [] := hD
    refine W.eq (g2 := F0 m 35 ls [.int (zI (kdB ((c0 : Nat) : Int)))]) rfl ?_
    refine z_if_lt (tgt := 42) hx hb (by have := kdB_r ((c0 : Nat) : Int); omega) dX0_mayStandInStep_35 (by decide) (fun c_35 => ?_) (fun c_35 => ?_)
    · refine lv_iconst (v := zI 0) hx hb dX0_mayStandInStep_42 rfl ?_
      rw [← hQf]
      exact z_bret K hS () (by rw [if_pos (by omega)]; first | exact (b01_t (by simp; omega)).symm | exact (b01_f (by simp; omega)).symm) (by omega) hP hD dX0_mayStandInStep_43
    · refine lv_iconst (v := zI 1) hx hb dX0_mayStandInStep_38 rfl ?_
      refine lv_goto (tgt := 43) hx hb dX0_mayStandInStep_39 (by decide) ?_
      rw [← hQf]
      exact z_bret K hS () (by rw [if_pos (by omega)]; first | exact (b01_t (by simp; omega)).symm | exact (b01_f (by simp; omega)).symm) (by omega) hP hD dX0_mayStandInStep_43
  · refine lv_lookup (off := 43) (tgt := 44) hx hb dX0_mayStandInStep_1 (by decide) (by rw [zI_toInt (by omega), c_1]; first | done | rfl | decide) (by decide) ?_
    refine lv_iload_n hx hb dX0_mayStandInStep_44 rfl (lv_at hl 1 rfl) ?_
    refine lv_bipush (v := zI 48) hx hb dX0_mayStandInStep_45 (by decide) ?_
    refine z_icmp_lt (tgt := 60) hx hb (by omega) dX0_mayStandInStep_47 (by decide) (fun c_47 => ?_) (fun c_47 => ?_)
    · refine lv_iconst (v := zI 0) hx hb dX0_mayStandInStep_60 rfl ?_
      rw [← hQf]
      exact z_bret K hS () (by rw [if_neg (by omega), if_pos (by omega)]; first | exact (b01_t (by simp; omega)).symm | exact (b01_f (by simp; omega)).symm) (by omega) hP hD dX0_mayStandInStep_61
    · refine lv_iload_n hx hb dX0_mayStandInStep_50 rfl (lv_at hl 1 rfl) ?_
      refine lv_bipush (v := zI 57) hx hb dX0_mayStandInStep_51 (by decide) ?_
      refine z_icmp_gt (tgt := 60) hx hb (by omega) dX0_mayStandInStep_53 (by decide) (fun c_53 => ?_) (fun c_53 => ?_)
      · refine lv_iconst (v := zI 0) hx hb dX0_mayStandInStep_60 rfl ?_
        rw [← hQf]
        exact z_bret K hS () (by rw [if_neg (by omega), if_pos (by omega)]; first | exact (b01_t (by simp; omega)).symm | exact (b01_f (by simp; omega)).symm) (by omega) hP hD dX0_mayStandInStep_61
      · refine lv_iconst (v := zI 1) hx hb dX0_mayStandInStep_56 rfl ?_
        refine lv_goto (tgt := 61) hx hb dX0_mayStandInStep_57 (by decide) ?_
        rw [← hQf]
        exact z_bret K hS () (by rw [if_neg (by omega), if_pos (by omega)]; first | exact (b01_t (by simp; omega)).symm | exact (b01_f (by simp; omega)).symm) (by omega) hP hD dX0_mayStandInStep_61
  · refine lv_lookup (off := 61) (tgt := 62) hx hb dX0_mayStandInStep_1 (by decide) (by rw [zI_toInt (by omega)]; obtain ⟨e0, e1⟩ := c_1; simp [Op.lookupswitch.offset, e0, e1, Ne.symm e0, Ne.symm e1]) (by decide) ?_
    refine lv_iload_n hx hb dX0_mayStandInStep_62 rfl (lv_at hl 1 rfl) ?_
    refine lv_bipush (v := zI 44) hx hb dX0_mayStandInStep_63 (by decide) ?_
    refine z_icmp_ne (tgt := 72) hx hb (by omega) dX0_mayStandInStep_65 (by decide) (fun c_65 => ?_) (fun c_65 => ?_)
    · refine lv_iconst (v := zI 0) hx hb dX0_mayStandInStep_72 rfl ?_
      rw [← hQf]
      exact z_bret K hS () (by rw [if_neg (by omega), if_neg (by omega)]; first | exact (b01_t (by simp; omega)).symm | exact (b01_f (by simp; omega)).symm) (by omega) hP hD dX0_mayStandInStep_73
    · refine lv_iconst (v := zI 1) hx hb dX0_mayStandInStep_68 rfl ?_
      refine lv_goto (tgt := 73) hx hb dX0_mayStandInStep_69 (by decide) ?_
      rw [← hQf]
      exact z_bret K hS () (by rw [if_neg (by omega), if_neg (by omega)]; first | exact (b01_t (by simp; omega)).symm | exact (b01_f (by simp; omega)).symm) (by omega) hP hD dX0_mayStandInStep_73
set_option maxHeartbeats 4000000 in
set_option maxRecDepth 100000 in
theorem c_X0_mayStand (l : Launch) (D : va_G) (cI : ClassId) (aK aV : Nat) (h lp pl : Nat) (gl : Nat → Int) (lt : Nat → Nat) (i0 : Nat) (hL : LI pl gl lt) (hi0 : i0 < pl) : zMiX l yX0_mayStand cX0_mayStand 3 (some .boolean) ({ frames := 5, cells := 0, slots := 0, locals := 112 }) D cI aK aV [.ref h, .int (zI ((i0 : Nat) : Int))] [cP h lp ((pl : Nat) : Int), cR cI lp 22 gl] (fun (z : Int) (u : Unit) => z = (b01 (okB lt i0 = true))) (fun (u : Unit) => [cP h lp ((pl : Nat) : Int), cR cI lp 22 gl]) := by
  intro sz
  refine zstartX rfl (by decide) (Nat.le_of_ble_eq_true rfl) ?_
  intro p e s m below meth c ls K hnm hsz hP hD hS hl hX
  generalize hargs : ([.ref h, .int (zI ((i0 : Nat) : Int))] : List Value).toArray = args at K ⊢
  generalize hQf : MQ below _ args s _ _ _ = Qf
  have K : zK p s m args meth c cX0_mayStand 3 RX0 (some .boolean) D cI := K
  obtain ⟨hx, hb, hml, hown, hts, hE, -, -⟩ := id K
  have hA := zhA (ws0 := [cP h lp ((pl : Nat) : Int), cR cI lp 22 gl]) hsz
  have hl : lv_has ls 3 [(0, .ref h), (1, .int (zI ((i0 : Nat) : Int)))] := hl
  obtain ⟨hpl, hgl, hlt⟩ := id hL
  have hl0 := hlt i0 hi0
  have hl1 := hlt 0 (by omega)
  refine lv_aload_n hx hb dX0_mayStand_0 rfl (lv_at hl 0 rfl) ?_
  refine va_get (D := D) (ci := 0) (v := .ref lp) (C := RX0) (T := TX0) (N := 2) hx hb hts inT_X0 hown hE.1 hP 0 rfl rfl 0 (by decide) (hts _ qf_X0_11) (fun _ h9 => h9) rfl dX0_mayStand_1 ?_
  refine lv_iload_n hx hb dX0_mayStand_4 rfl (lv_at hl 1 rfl) ?_
  refine z_iald hx hb hE hP 1 rfl i0 (by omega) (by omega) (by first | decide | omega) ((lt i0 : Nat) : Int) (hgl i0 hi0) dX0_mayStand_5 ?_
  refine lv_istore_n (lv' := [(2, .int (zI ((lt i0 : Nat) : Int))), (0, .ref h), (1, .int (zI ((i0 : Nat) : Int)))]) hx hb dX0_mayStand_6 rfl hl (by decide) rfl (fun ls hl => ?_)
  refine lv_iload_n hx hb dX0_mayStand_7 rfl (lv_at hl 2 rfl) ?_
  refine lv_bipush (v := zI 20) hx hb dX0_mayStand_8 (by decide) ?_
  refine z_icmp_lt (tgt := 15) hx hb (by omega) dX0_mayStand_10 (by decide) (fun c_10 => ?_) (fun c_10 => ?_)
  · refine lv_iload_n hx hb dX0_mayStand_15 rfl (lv_at hl 2 rfl) ?_
    rcases (show ((i0 : Nat) : Int) = 0 ∨ ((i0 : Nat) : Int) = 1 ∨ ((i0 : Nat) : Int) = 2 ∨ (((i0 : Nat) : Int) ≠ 0 ∧ ((i0 : Nat) : Int) ≠ 1 ∧ ((i0 : Nat) : Int) ≠ 2) by omega) with c_16 | c_16 | c_16 | c_16
    · refine lv_tableIn (tgt := 44) hx hb dX0_mayStand_16 (by rw [zI_toInt (by omega)]; omega) (by rw [zI_toInt (by omega)]; omega) (by rw [zI_toInt (by omega), c_16]; rfl) (by decide) ?_
      refine lv_iload_n hx hb dX0_mayStand_44 rfl (lv_at hl 0 rfl) ?_
      refine lv_bipush (v := zI 48) hx hb dX0_mayStand_45 (by decide) ?_
      refine z_icmp_eq (tgt := 56) hx hb (by omega) dX0_mayStand_47 (by decide) (fun c_47 => ?_) (fun c_47 => ?_)
      · refine lv_iconst (v := zI 1) hx hb dX0_mayStand_56 rfl ?_
        refine lv_goto (tgt := 61) hx hb dX0_mayStand_57 (by decide) ?_
        rw [← hQf]
        exact z_bret K hS () (by have e9 : i0 = 0 := (by omega); rw [e9, okB_0]; rw [e9] at hl0 c_47; (try rw [e9] at c_53); first | exact (b01_t (by simp; omega)).symm | exact (b01_f (by simp; omega)).symm) (by omega) hP hD dX0_mayStand_61
      · refine lv_iload_n hx hb dX0_mayStand_50 rfl (lv_at hl 0 rfl) ?_
        refine lv_bipush (v := zI 49) hx hb dX0_mayStand_51 (by decide) ?_
        refine z_icmp_ne (tgt := 60) hx hb (by omega) dX0_mayStand_53 (by decide) (fun c_53 => ?_) (fun c_53 => ?_)
        · refine lv_iconst (v := zI 0) hx hb dX0_mayStand_60 rfl ?_
          rw [← hQf]
          exact z_bret K hS () (by have e9 : i0 = 0 := (by omega); rw [e9, okB_0]; rw [e9] at hl0 c_47; (try rw [e9] at c_53); first | exact (b01_t (by simp; omega)).symm | exact (b01_f (by simp; omega)).symm) (by omega) hP hD dX0_mayStand_61
        · refine lv_iconst (v := zI 1) hx hb dX0_mayStand_56 rfl ?_
          refine lv_goto (tgt := 61) hx hb dX0_mayStand_57 (by decide) ?_
          rw [← hQf]
          exact z_bret K hS () (by have e9 : i0 = 0 := (by omega); rw [e9, okB_0]; rw [e9] at hl0 c_47; (try rw [e9] at c_53); first | exact (b01_t (by simp; omega)).symm | exact (b01_f (by simp; omega)).symm) (by omega) hP hD dX0_mayStand_61
    · refine lv_tableIn (tgt := 62) hx hb dX0_mayStand_16 (by rw [zI_toInt (by omega)]; omega) (by rw [zI_toInt (by omega)]; omega) (by rw [zI_toInt (by omega), c_16]; rfl) (by decide) ?_
      refine lv_aload_n hx hb dX0_mayStand_62 rfl (lv_at hl 1 rfl) ?_
      refine va_get (D := D) (ci := 0) (v := .ref lp) (C := RX0) (T := TX0) (N := 2) hx hb hts inT_X0 hown hE.1 hP 0 rfl rfl 0 (by decide) (hts _ qf_X0_11) (fun _ h9 => h9) rfl dX0_mayStand_63 ?_
      refine lv_iconst (v := zI 0) hx hb dX0_mayStand_66 rfl ?_
      refine z_iald hx hb hE hP 1 rfl 0 (by omega) (by omega) (by first | decide | omega) ((lt 0 : Nat) : Int) (hgl 0 (by omega)) dX0_mayStand_67 ?_
      refine lv_bipush (v := zI 48) hx hb dX0_mayStand_68 (by decide) ?_
      refine z_icmp_ne (tgt := 93) hx hb (by omega) dX0_mayStand_70 (by decide) (fun c_70 => ?_) (fun c_70 => ?_)
      · refine lv_iload_n hx hb dX0_mayStand_93 rfl (lv_at hl 0 rfl) ?_
        refine lv_bipush (v := zI 48) hx hb dX0_mayStand_94 (by decide) ?_
        refine z_icmp_lt (tgt := 109) hx hb (by omega) dX0_mayStand_96 (by decide) (fun c_96 => ?_) (fun c_96 => ?_)
        · refine lv_iconst (v := zI 0) hx hb dX0_mayStand_109 rfl ?_
          rw [← hQf]
          exact z_bret K hS () (by have e9 : i0 = 1 := (by omega); rw [e9, okB_1]; rw [e9] at hl0; (try rw [e9] at c_76); (try rw [e9] at c_82); (try rw [e9] at c_96); (try rw [e9] at c_102); first | (rw [if_pos (show lt 0 = 48 by omega)]; first | exact (b01_t (by simp; omega)).symm | exact (b01_f (by simp; omega)).symm) | (rw [if_neg (show ¬ lt 0 = 48 by omega)]; first | exact (b01_t (by simp; omega)).symm | exact (b01_f (by simp; omega)).symm)) (by omega) hP hD dX0_mayStand_110
        · refine lv_iload_n hx hb dX0_mayStand_99 rfl (lv_at hl 0 rfl) ?_
          refine lv_bipush (v := zI 50) hx hb dX0_mayStand_100 (by decide) ?_
          refine z_icmp_gt (tgt := 109) hx hb (by omega) dX0_mayStand_102 (by decide) (fun c_102 => ?_) (fun c_102 => ?_)
          · refine lv_iconst (v := zI 0) hx hb dX0_mayStand_109 rfl ?_
            rw [← hQf]
            exact z_bret K hS () (by have e9 : i0 = 1 := (by omega); rw [e9, okB_1]; rw [e9] at hl0; (try rw [e9] at c_76); (try rw [e9] at c_82); (try rw [e9] at c_96); (try rw [e9] at c_102); first | (rw [if_pos (show lt 0 = 48 by omega)]; first | exact (b01_t (by simp; omega)).symm | exact (b01_f (by simp; omega)).symm) | (rw [if_neg (show ¬ lt 0 = 48 by omega)]; first | exact (b01_t (by simp; omega)).symm | exact (b01_f (by simp; omega)).symm)) (by omega) hP hD dX0_mayStand_110
          · refine lv_iconst (v := zI 1) hx hb dX0_mayStand_105 rfl ?_
            refine lv_goto (tgt := 110) hx hb dX0_mayStand_106 (by decide) ?_
            rw [← hQf]
            exact z_bret K hS () (by have e9 : i0 = 1 := (by omega); rw [e9, okB_1]; rw [e9] at hl0; (try rw [e9] at c_76); (try rw [e9] at c_82); (try rw [e9] at c_96); (try rw [e9] at c_102); first | (rw [if_pos (show lt 0 = 48 by omega)]; first | exact (b01_t (by simp; omega)).symm | exact (b01_f (by simp; omega)).symm) | (rw [if_neg (show ¬ lt 0 = 48 by omega)]; first | exact (b01_t (by simp; omega)).symm | exact (b01_f (by simp; omega)).symm)) (by omega) hP hD dX0_mayStand_110
      · refine lv_iload_n hx hb dX0_mayStand_73 rfl (lv_at hl 0 rfl) ?_
        refine lv_bipush (v := zI 50) hx hb dX0_mayStand_74 (by decide) ?_
        refine z_icmp_lt (tgt := 89) hx hb (by omega) dX0_mayStand_76 (by decide) (fun c_76 => ?_) (fun c_76 => ?_)
        · refine lv_iconst (v := zI 0) hx hb dX0_mayStand_89 rfl ?_
          refine lv_goto (tgt := 110) hx hb dX0_mayStand_90 (by decide) ?_
          rw [← hQf]
          exact z_bret K hS () (by have e9 : i0 = 1 := (by omega); rw [e9, okB_1]; rw [e9] at hl0; (try rw [e9] at c_76); (try rw [e9] at c_82); (try rw [e9] at c_96); (try rw [e9] at c_102); first | (rw [if_pos (show lt 0 = 48 by omega)]; first | exact (b01_t (by simp; omega)).symm | exact (b01_f (by simp; omega)).symm) | (rw [if_neg (show ¬ lt 0 = 48 by omega)]; first | exact (b01_t (by simp; omega)).symm | exact (b01_f (by simp; omega)).symm)) (by omega) hP hD dX0_mayStand_110
        · refine lv_iload_n hx hb dX0_mayStand_79 rfl (lv_at hl 0 rfl) ?_
          refine lv_bipush (v := zI 57) hx hb dX0_mayStand_80 (by decide) ?_
          refine z_icmp_gt (tgt := 89) hx hb (by omega) dX0_mayStand_82 (by decide) (fun c_82 => ?_) (fun c_82 => ?_)
          · refine lv_iconst (v := zI 0) hx hb dX0_mayStand_89 rfl ?_
            refine lv_goto (tgt := 110) hx hb dX0_mayStand_90 (by decide) ?_
            rw [← hQf]
            exact z_bret K hS () (by have e9 : i0 = 1 := (by omega); rw [e9, okB_1]; rw [e9] at hl0; (try rw [e9] at c_76); (try rw [e9] at c_82); (try rw [e9] at c_96); (try rw [e9] at c_102); first | (rw [if_pos (show lt 0 = 48 by omega)]; first | exact (b01_t (by simp; omega)).symm | exact (b01_f (by simp; omega)).symm) | (rw [if_neg (show ¬ lt 0 = 48 by omega)]; first | exact (b01_t (by simp; omega)).symm | exact (b01_f (by simp; omega)).symm)) (by omega) hP hD dX0_mayStand_110
          · refine lv_iconst (v := zI 1) hx hb dX0_mayStand_85 rfl ?_
            refine lv_goto (tgt := 110) hx hb dX0_mayStand_86 (by decide) ?_
            rw [← hQf]
            exact z_bret K hS () (by have e9 : i0 = 1 := (by omega); rw [e9, okB_1]; rw [e9] at hl0; (try rw [e9] at c_76); (try rw [e9] at c_82); (try rw [e9] at c_96); (try rw [e9] at c_102); first | (rw [if_pos (show lt 0 = 48 by omega)]; first | exact (b01_t (by simp; omega)).symm | exact (b01_f (by simp; omega)).symm) | (rw [if_neg (show ¬ lt 0 = 48 by omega)]; first | exact (b01_t (by simp; omega)).symm | exact (b01_f (by simp; omega)).symm)) (by omega) hP hD dX0_mayStand_110
    · refine lv_tableIn (tgt := 111) hx hb dX0_mayStand_16 (by rw [zI_toInt (by omega)]; omega) (by rw [zI_toInt (by omega)]; omega) (by rw [zI_toInt (by omega), c_16]; rfl) (by decide) ?_
      refine lv_iload_n hx hb dX0_mayStand_111 rfl (lv_at hl 0 rfl) ?_
      refine lv_bipush (v := zI 59) hx hb dX0_mayStand_112 (by decide) ?_
      refine z_icmp_ne (tgt := 121) hx hb (by omega) dX0_mayStand_114 (by decide) (fun c_114 => ?_) (fun c_114 => ?_)
      · refine lv_iconst (v := zI 0) hx hb dX0_mayStand_121 rfl ?_
        rw [← hQf]
        exact z_bret K hS () (by have e9 : i0 = 2 := (by omega); rw [e9, okB_2]; rw [e9] at c_114; first | exact (b01_t (by simp; omega)).symm | exact (b01_f (by simp; omega)).symm) (by omega) hP hD dX0_mayStand_122
      · refine lv_iconst (v := zI 1) hx hb dX0_mayStand_117 rfl ?_
        refine lv_goto (tgt := 122) hx hb dX0_mayStand_118 (by decide) ?_
        rw [← hQf]
        exact z_bret K hS () (by have e9 : i0 = 2 := (by omega); rw [e9, okB_2]; rw [e9] at c_114; first | exact (b01_t (by simp; omega)).symm | exact (b01_f (by simp; omega)).symm) (by omega) hP hD dX0_mayStand_122
    · refine lv_tableOut (tgt := 123) hx hb dX0_mayStand_16 (by rw [zI_toInt (by omega)]; omega) (by decide) ?_
      refine lv_iload_n hx hb dX0_mayStand_123 rfl (lv_at hl 2 rfl) ?_
      refine zcall_i (wc := []) (wr := [cP h lp ((pl : Nat) : Int), cR cI lp 22 gl]) (rest := []) hE hP hD hS hA [] [0, 1] [0, 1] rfl rfl (by decide) (by decide) (by decide) (fun (u : Unit) => [cP h lp ((pl : Nat) : Int), cR cI lp 22 gl]) (fun u => rfl) (fun hPc hDc => zrunS (As := [.int (zI ((i0 : Nat) : Int))]) (rest := []) K k_X0_partOfStep qm_X0_23 ⟨⟨rfl, rfl⟩, ⟨Nat.le_of_ble_eq_true rfl, Nat.le_of_ble_eq_true rfl⟩⟩ hPc hDc (c_X0_partOfStep l D cI i0 (by first | assumption | omega) (by first | assumption | omega) _) rfl hl.1 rfl (Nat.le_of_ble_eq_true rfl) dX0_mayStand_124 ⟨Nat.zero_le _, Nat.zero_le _⟩) (by decide) (fun z u H locs hpost hP hD hS => ?_)
      subst hpost
      have hP : va_P D cls [cP h lp ((pl : Nat) : Int), cR cI lp 22 gl] H := hP
      have hD : va_D (va_A [cP h lp ((pl : Nat) : Int), cR cI lp 22 gl] sz) [cP h lp ((pl : Nat) : Int), cR cI lp 22 gl] := hD
      refine W.eq (g2 := F0 m 127 ls [.int (zI (((i0 % 3) : Nat) : Int))]) rfl ?_
      refine lv_iload_n hx hb dX0_mayStand_127 rfl (lv_at hl 0 rfl) ?_
      have hm3 : i0 % 3 < 3 := Nat.mod_lt _ (by omega)
      refine zcall_i (wc := []) (wr := [cP h lp ((pl : Nat) : Int), cR cI lp 22 gl]) (rest := []) hE hP hD hS hA [] [0, 1] [0, 1] rfl rfl (by decide) (by decide) (by decide) (fun (u : Unit) => [cP h lp ((pl : Nat) : Int), cR cI lp 22 gl]) (fun u => rfl) (fun hPc hDc => zrunSX (As := [.int (zI (((i0 % 3) : Nat) : Int)), .int (zI ((lt i0 : Nat) : Int))]) (rest := []) K k_X0_mayStandInStep qm_X0_31 ⟨⟨rfl, rfl⟩, ⟨Nat.le_of_ble_eq_true rfl, Nat.le_of_ble_eq_true rfl⟩⟩ hX hS (va_free hD hS hA [] rfl) hPc hDc (c_X0_mayStandInStep l D cI aK aV (i0 % 3) (lt i0) (by first | assumption | omega) (by first | assumption | omega) _) rfl hl.1 rfl (Nat.le_of_ble_eq_true rfl) dX0_mayStand_128 ⟨Nat.zero_le _, Nat.zero_le _⟩) (by decide) (fun z u H locs hpost hP hD hS => ?_)
      subst hpost
      have hP : va_P D cls [cP h lp ((pl : Nat) : Int), cR cI lp 22 gl] H := hP
      have hD : va_D (va_A [cP h lp ((pl : Nat) : Int), cR cI lp 22 gl] sz) [cP h lp ((pl : Nat) : Int), cR cI lp 22 gl] := hD
      refine W.eq (g2 := F0 m 131 ls [.int (zI (b01 ((if (i0 % 3) = 0 then decide (0 ≤ kdB (((lt i0) : Nat) : Int)) else if (i0 % 3) = 1 then decide (48 ≤ (lt i0) ∧ (lt i0) ≤ 57) else decide ((lt i0) = 44)) = true)))]) rfl ?_
      rw [← hQf]
      exact z_bret K hS () (by congr 2; rcases (show i0 % 3 = 0 ∨ i0 % 3 = 1 ∨ i0 % 3 = 2 by omega) with h9 | h9 | h9; rw [okB_k (by omega) (by omega) h9, if_pos h9]; rw [okB_n (by omega) (by omega) h9, if_neg (by omega), if_pos h9]; rw [okB_c (by omega) (by omega) h9, if_neg (by omega), if_neg (by omega)]) (by exact b01_01 _) hP hD dX0_mayStand_131
  · refine lv_iconst (v := zI 0) hx hb dX0_mayStand_13 rfl ?_
    rw [← hQf]
    exact z_bret K hS () (by rw [okB_20 (by omega)]; rfl) (by omega) hP hD dX0_mayStand_14
set_option maxHeartbeats 4000000 in
set_option maxRecDepth 100000 in
theorem c_X0_firstWrong (l : Launch) (D : va_G) (cI : ClassId) (aK aV : Nat) (h lp pl : Nat) (gl : Nat → Int) (lt : Nat → Nat) (hL : LI pl gl lt) : zMiX l yX0_firstWrong cX0_firstWrong 2 (some .int) ({ frames := 6, cells := 0, slots := 0, locals := 134 }) D cI aK aV [.ref h] [cP h lp ((pl : Nat) : Int), cR cI lp 22 gl] (fun (z : Int) (u : Unit) => z = (((fFau pl lt) : Nat) : Int)) (fun (u : Unit) => [cP h lp ((pl : Nat) : Int), cR cI lp 22 gl]) := by
  intro sz
  refine zstartX rfl (by decide) (Nat.le_of_ble_eq_true rfl) ?_
  intro p e s m below meth c ls K hnm hsz hP hD hS hl hX
  generalize hargs : ([.ref h] : List Value).toArray = args at K ⊢
  generalize hQf : MQ below _ args s _ _ _ = Qf
  have K : zK p s m args meth c cX0_firstWrong 2 RX0 (some .int) D cI := K
  obtain ⟨hx, hb, hml, hown, hts, hE, -, -⟩ := id K
  have hA := zhA (ws0 := [cP h lp ((pl : Nat) : Int), cR cI lp 22 gl]) hsz
  have hl : lv_has ls 2 [(0, .ref h)] := hl
  have hpl := hL.1
  refine lv_iconst (v := zI 0) hx hb dX0_firstWrong_0 rfl ?_
  refine lv_istore_n (lv' := [(1, .int (zI 0)), (0, .ref h)]) hx hb dX0_firstWrong_1 rfl hl (by decide) rfl (fun ls hl => ?_)
  have cut_2 : ∀ (N_2 : Nat), ∀ (i : Nat), pl - i < N_2 → (i ≤ pl) → (∀ j, j < i → (!okB lt j) = false) → ∀ (H : Heap) (locs : List Loc) (ls : Array Slot), va_P D cls [cP h lp ((pl : Nat) : Int), cR cI lp 22 gl] H → va_D (va_A [cP h lp ((pl : Nat) : Int), cR cI lp 22 gl] sz) [cP h lp ((pl : Nat) : Int), cR cI lp 22 gl] → va_S (va_A [cP h lp ((pl : Nat) : Int), cR cI lp 22 gl] sz) s.heap H locs → lv_has ls 2 [(0, .ref h), (1, .int (zI ((i : Nat) : Int)))] → W p l e ({ frames := 6, cells := 0, slots := 0, locals := 134 }) s m args below meth c H locs 0 0 Qf (F0 m 2 ls []) := by
    intro N_2
    induction N_2 with
    | zero => intro i hm_2; exact absurd hm_2 (Nat.not_lt_zero _)
    | succ N_2 ih_2 =>
      intro i hm_2 hi hn H locs ls hP hD hS hl
      refine lv_iload_n hx hb dX0_firstWrong_2 rfl (lv_at hl 1 rfl) ?_
      refine lv_aload_n hx hb dX0_firstWrong_3 rfl (lv_at hl 0 rfl) ?_
      refine va_get (D := D) (ci := 0) (v := .int (zI ((pl : Nat) : Int))) (C := RX0) (T := TX0) (N := 2) hx hb hts inT_X0 hown hE.1 hP 0 rfl rfl 1 (by decide) (hts _ qf_X0_15) (fun _ h9 => h9) rfl dX0_firstWrong_4 ?_
      refine z_icmp_ge (tgt := 26) hx hb (by omega) dX0_firstWrong_7 (by decide) (fun c_7 => ?_) (fun c_7 => ?_)
      · refine lv_aload_n hx hb dX0_firstWrong_26 rfl (lv_at hl 0 rfl) ?_
        refine va_get (D := D) (ci := 0) (v := .int (zI ((pl : Nat) : Int))) (C := RX0) (T := TX0) (N := 2) hx hb hts inT_X0 hown hE.1 hP 0 rfl rfl 1 (by decide) (hts _ qf_X0_15) (fun _ h9 => h9) rfl dX0_firstWrong_27 ?_
        rw [← hQf]
        exact z_iret K hS () (by rw [fFau, fa_is (m := i) hn (Or.inl (by omega)), show i = pl by omega]) hP hD dX0_firstWrong_30
      · refine lv_aload_n hx hb dX0_firstWrong_10 rfl (lv_at hl 0 rfl) ?_
        refine lv_iload_n hx hb dX0_firstWrong_11 rfl (lv_at hl 1 rfl) ?_
        refine zcall_i (wc := [cP h lp ((pl : Nat) : Int), cR cI lp 22 gl]) (wr := []) (rest := []) hE hP hD hS hA [0, 1] [] [0, 1] rfl rfl (by decide) (by decide) (by decide) (fun (u : Unit) => [cP h lp ((pl : Nat) : Int), cR cI lp 22 gl]) (fun u => rfl) (fun hPc hDc => zrunVX (As := [.int (zI ((i : Nat) : Int))]) (rest := []) (q0 := 0) (ci := 0) K k_X0_mayStand qm_X0_19 ⟨⟨rfl, rfl⟩, ⟨Nat.le_of_ble_eq_true rfl, Nat.le_of_ble_eq_true rfl⟩⟩ rfl rfl hX hS (va_free hD hS hA [0, 1] rfl) hPc hDc (c_X0_mayStand l D cI aK aV h lp pl gl lt i (by first | assumption | omega) (by first | assumption | omega) _) rfl hl.1 rfl (Nat.le_of_ble_eq_true rfl) dX0_firstWrong_12 ⟨Nat.zero_le _, Nat.zero_le _⟩) (by decide) (fun z u H locs hpost hP hD hS => ?_)
        subst hpost
        have hP : va_P D cls [cP h lp ((pl : Nat) : Int), cR cI lp 22 gl] H := hP
        have hD : va_D (va_A [cP h lp ((pl : Nat) : Int), cR cI lp 22 gl] sz) [cP h lp ((pl : Nat) : Int), cR cI lp 22 gl] := hD
        refine W.eq (g2 := F0 m 15 ls [.int (zI (b01 (okB lt i = true)))]) rfl ?_
        refine z_if_ne (tgt := 20) hx hb (by have := b01_r (okB lt i = true); omega) dX0_firstWrong_15 (by decide) (fun c_15 => ?_) (fun c_15 => ?_)
        · have b_15 := b01_ne c_15
          refine z_iinc (k := 1) (lv' := [(1, .int (zI (((i + 1) : Nat) : Int))), (0, .ref h)]) hx hb (((i + 1) : Nat) : Int) (by omega) dX0_firstWrong_20 hl rfl (by decide) rfl (fun ls hl => ?_)
          refine lv_goto (tgt := 2) hx hb dX0_firstWrong_23 (by decide) ?_
          exact ih_2 (i + 1) (by omega) (by omega) (by intro j hj; rcases Nat.lt_or_ge j i with h1 | h1; exact hn j h1; rw [show j = i by omega, b_15]; rfl) _ _ _ hP hD hS (lv_sub hl [1, 0] rfl)
        · have b_15 := b01_eq c_15
          refine lv_iload_n hx hb dX0_firstWrong_18 rfl (lv_at hl 1 rfl) ?_
          rw [← hQf]
          exact z_iret K hS () (by rw [fFau, fa_is hn (Or.inr ⟨by omega, by simpa using b_15⟩)]) hP hD dX0_firstWrong_19
  exact cut_2 (pl - 0 + 1) 0 (Nat.lt_succ_self _) (by omega) (by intro j hj; omega) _ _ _ hP hD hS (lv_sub hl [1, 0] rfl)
set_option maxHeartbeats 4000000 in
set_option maxRecDepth 100000 in
theorem c_X0_isRoutine (l : Launch) (D : va_G) (cI : ClassId) (aK aV : Nat) (h lp pl : Nat) (gl : Nat → Int) (lt : Nat → Nat) (hL : LI pl gl lt) : zMiX l yX0_isRoutine cX0_isRoutine 2 (some .boolean) ({ frames := 7, cells := 0, slots := 0, locals := 155 }) D cI aK aV [.ref h] [cP h lp ((pl : Nat) : Int), cR cI lp 22 gl] (fun (z : Int) (u : Unit) => z = (b01 (rOk pl lt))) (fun (u : Unit) => [cP h lp ((pl : Nat) : Int), cR cI lp 22 gl]) := by
  intro sz
  refine zstartX rfl (by decide) (Nat.le_of_ble_eq_true rfl) ?_
  intro p e s m below meth c ls K hnm hsz hP hD hS hl hX
  generalize hargs : ([.ref h] : List Value).toArray = args at K ⊢
  generalize hQf : MQ below _ args s _ _ _ = Qf
  have K : zK p s m args meth c cX0_isRoutine 2 RX0 (some .boolean) D cI := K
  obtain ⟨hx, hb, hml, hown, hts, hE, -, -⟩ := id K
  have hA := zhA (ws0 := [cP h lp ((pl : Nat) : Int), cR cI lp 22 gl]) hsz
  have hl : lv_has ls 2 [(0, .ref h)] := hl
  have hpl := hL.1
  have hfl : fFau pl lt ≤ pl := fa_first_le _ _
  refine lv_aload_n hx hb dX0_isRoutine_0 rfl (lv_at hl 0 rfl) ?_
  refine va_get (D := D) (ci := 0) (v := .int (zI ((pl : Nat) : Int))) (C := RX0) (T := TX0) (N := 2) hx hb hts inT_X0 hown hE.1 hP 0 rfl rfl 1 (by decide) (hts _ qf_X0_15) (fun _ h9 => h9) rfl dX0_isRoutine_1 ?_
  refine lv_iconst (v := zI 3) hx hb dX0_isRoutine_4 rfl ?_
  refine z_icmp_le (tgt := 25) hx hb (by omega) dX0_isRoutine_5 (by decide) (fun c_5 => ?_) (fun c_5 => ?_)
  · refine lv_iconst (v := zI 0) hx hb dX0_isRoutine_25 rfl ?_
    refine lv_istore_n (lv' := [(1, .int (zI 0)), (0, .ref h)]) hx hb dX0_isRoutine_26 rfl hl (by decide) rfl (fun ls hl => ?_)
    refine lv_iload_n hx hb dX0_isRoutine_27 rfl (lv_at hl 0 rfl) ?_
    refine z_if_eq (tgt := 46) hx hb (by omega) dX0_isRoutine_28 (by decide) (fun c_28 => ?_) (fun c_28 => ?_)
    · refine lv_iconst (v := zI 0) hx hb dX0_isRoutine_46 rfl ?_
      rw [← hQf]
      exact z_bret K hS () (by first | exact (b01_t (by unfold rOk; omega)).symm | exact (b01_f (by unfold rOk; omega)).symm) (by omega) hP hD dX0_isRoutine_47
    · exfalso; omega
  · refine lv_aload_n hx hb dX0_isRoutine_8 rfl (lv_at hl 0 rfl) ?_
    refine va_get (D := D) (ci := 0) (v := .int (zI ((pl : Nat) : Int))) (C := RX0) (T := TX0) (N := 2) hx hb hts inT_X0 hown hE.1 hP 0 rfl rfl 1 (by decide) (hts _ qf_X0_15) (fun _ h9 => h9) rfl dX0_isRoutine_9 ?_
    refine lv_iconst (v := zI 1) hx hb dX0_isRoutine_12 rfl ?_
    refine z_isub hx hb (((pl - 1) : Nat) : Int) (by omega) dX0_isRoutine_13 ?_
    refine zcall_i (wc := []) (wr := [cP h lp ((pl : Nat) : Int), cR cI lp 22 gl]) (rest := []) hE hP hD hS hA [] [0, 1] [0, 1] rfl rfl (by decide) (by decide) (by decide) (fun (u : Unit) => [cP h lp ((pl : Nat) : Int), cR cI lp 22 gl]) (fun u => rfl) (fun hPc hDc => zrunS (As := [.int (zI (((pl - 1) : Nat) : Int))]) (rest := []) K k_X0_partOfStep qm_X0_23 ⟨⟨rfl, rfl⟩, ⟨Nat.le_of_ble_eq_true rfl, Nat.le_of_ble_eq_true rfl⟩⟩ hPc hDc (c_X0_partOfStep l D cI (pl - 1) (by first | assumption | omega) (by first | assumption | omega) _) rfl hl.1 rfl (Nat.le_of_ble_eq_true rfl) dX0_isRoutine_14 ⟨Nat.zero_le _, Nat.zero_le _⟩) (by decide) (fun z u H locs hpost hP hD hS => ?_)
    subst hpost
    have hP : va_P D cls [cP h lp ((pl : Nat) : Int), cR cI lp 22 gl] H := hP
    have hD : va_D (va_A [cP h lp ((pl : Nat) : Int), cR cI lp 22 gl] sz) [cP h lp ((pl : Nat) : Int), cR cI lp 22 gl] := hD
    refine W.eq (g2 := F0 m 17 ls [.int (zI ((((pl - 1) % 3) : Nat) : Int))]) rfl ?_
    refine lv_iconst (v := zI 1) hx hb dX0_isRoutine_17 rfl ?_
    refine z_icmp_ne (tgt := 25) hx hb (by omega) dX0_isRoutine_18 (by decide) (fun c_18 => ?_) (fun c_18 => ?_)
    · refine lv_iconst (v := zI 0) hx hb dX0_isRoutine_25 rfl ?_
      refine lv_istore_n (lv' := [(1, .int (zI 0)), (0, .ref h)]) hx hb dX0_isRoutine_26 rfl hl (by decide) rfl (fun ls hl => ?_)
      refine lv_iload_n hx hb dX0_isRoutine_27 rfl (lv_at hl 0 rfl) ?_
      refine z_if_eq (tgt := 46) hx hb (by omega) dX0_isRoutine_28 (by decide) (fun c_28 => ?_) (fun c_28 => ?_)
      · refine lv_iconst (v := zI 0) hx hb dX0_isRoutine_46 rfl ?_
        rw [← hQf]
        exact z_bret K hS () (by first | exact (b01_t (by unfold rOk; omega)).symm | exact (b01_f (by unfold rOk; omega)).symm) (by omega) hP hD dX0_isRoutine_47
      · exfalso; omega
    · refine lv_iconst (v := zI 1) hx hb dX0_isRoutine_21 rfl ?_
      refine lv_goto (tgt := 26) hx hb dX0_isRoutine_22 (by decide) ?_
      refine lv_istore_n (lv' := [(1, .int (zI 1)), (0, .ref h)]) hx hb dX0_isRoutine_26 rfl hl (by decide) rfl (fun ls hl => ?_)
      refine lv_iload_n hx hb dX0_isRoutine_27 rfl (lv_at hl 0 rfl) ?_
      refine z_if_eq (tgt := 46) hx hb (by omega) dX0_isRoutine_28 (by decide) (fun c_28 => ?_) (fun c_28 => ?_)
      · exfalso; omega
      · refine lv_aload_n hx hb dX0_isRoutine_31 rfl (lv_at hl 1 rfl) ?_
        refine zcall_i (wc := [cP h lp ((pl : Nat) : Int), cR cI lp 22 gl]) (wr := []) (rest := []) hE hP hD hS hA [0, 1] [] [0, 1] rfl rfl (by decide) (by decide) (by decide) (fun (u : Unit) => [cP h lp ((pl : Nat) : Int), cR cI lp 22 gl]) (fun u => rfl) (fun hPc hDc => zrunVX (As := []) (rest := []) (q0 := 0) (ci := 0) K k_X0_firstWrong qm_X0_27 ⟨⟨rfl, rfl⟩, ⟨Nat.le_of_ble_eq_true rfl, Nat.le_of_ble_eq_true rfl⟩⟩ rfl rfl hX hS (va_free hD hS hA [0, 1] rfl) hPc hDc (c_X0_firstWrong l D cI aK aV h lp pl gl lt (by first | assumption | omega) _) rfl hl.1 rfl (Nat.le_of_ble_eq_true rfl) dX0_isRoutine_32 ⟨Nat.zero_le _, Nat.zero_le _⟩) (by decide) (fun z u H locs hpost hP hD hS => ?_)
        subst hpost
        have hP : va_P D cls [cP h lp ((pl : Nat) : Int), cR cI lp 22 gl] H := hP
        have hD : va_D (va_A [cP h lp ((pl : Nat) : Int), cR cI lp 22 gl] sz) [cP h lp ((pl : Nat) : Int), cR cI lp 22 gl] := hD
        refine W.eq (g2 := F0 m 35 ls [.int (zI (((fFau pl lt) : Nat) : Int))]) rfl ?_
        refine lv_aload_n hx hb dX0_isRoutine_35 rfl (lv_at hl 1 rfl) ?_
        refine va_get (D := D) (ci := 0) (v := .int (zI ((pl : Nat) : Int))) (C := RX0) (T := TX0) (N := 2) hx hb hts inT_X0 hown hE.1 hP 0 rfl rfl 1 (by decide) (hts _ qf_X0_15) (fun _ h9 => h9) rfl dX0_isRoutine_36 ?_
        refine z_icmp_ne (tgt := 46) hx hb (by omega) dX0_isRoutine_39 (by decide) (fun c_39 => ?_) (fun c_39 => ?_)
        · refine lv_iconst (v := zI 0) hx hb dX0_isRoutine_46 rfl ?_
          rw [← hQf]
          exact z_bret K hS () (by first | exact (b01_t (by unfold rOk; omega)).symm | exact (b01_f (by unfold rOk; omega)).symm) (by omega) hP hD dX0_isRoutine_47
        · refine lv_iconst (v := zI 1) hx hb dX0_isRoutine_42 rfl ?_
          refine lv_goto (tgt := 47) hx hb dX0_isRoutine_43 (by decide) ?_
          rw [← hQf]
          exact z_bret K hS () (by first | exact (b01_t (by unfold rOk; omega)).symm | exact (b01_f (by unfold rOk; omega)).symm) (by omega) hP hD dX0_isRoutine_47
