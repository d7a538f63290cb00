theorem zS_start {args : Array Value} {s : State} {A : Nat → Prop} (h : (Jvm.Cond.and given_1 narrow_1).before args s = true) (hts : ∀ w ∈ lw_tbl, w.before args s = true) (hA : ∀ a : Nat, a < s.heap.size → ¬ A a) : ∃ aK aV : Nat, zS aK aV A s s.heap := by
  have hs := flat_of_before _ h
  have hw1 : Cond.stringRef "DeckHands$Page" 35 "scdto" ∈ lw_tbl := List.mem_append_right _ (mN1 (i := 166) (by decide +kernel))
  have hw2 : Cond.laysStatic "java/lang/String" "COMPACT_STRINGS" "Z" ∈ lw_tbl := List.mem_append_right _ (mN1 (i := 180) (by decide +kernel))
  obtain ⟨adK, adV, hS1, hS2⟩ := vk_Sof (args := args) (s := s) (N := 1) (tm := fun _ => .string "DeckHands$Page" 35) (len := [5]) (byt := [[115, 99, 100, 116, 111]]) (A := A)
    (fun i hi => by rw [show i = 0 by omega]; decide) (fun i hi => hs _ (by decide +kernel)) (fun i hi => hs _ (by decide +kernel)) (fun i hi => hs _ (by decide +kernel))
    (fun i hi => by rw [show i = 0 by omega]; exact hs _ (by decide +kernel))
    (fun i hi j hj => by
      rw [show i = 0 by omega] at hj ⊢
      have hj5 : j < 5 := hj
      rcases (show j = 0 ∨ j = 1 ∨ j = 2 ∨ j = 3 ∨ j = 4 by omega) with rfl | rfl | rfl | rfl | rfl <;> exact hs _ (by decide +kernel))
    (fun i j hi hj hij => by omega) hA
  obtain ⟨hO, hC, hVv, hTt⟩ := hS1.1 0 (by omega)
  refine ⟨adK 0, adV 0, vk_R.of (hts _ hw1) (hS2 0 (by omega)), va_Zof (hts _ hw2) (hts _ (TT_good qn_J0).1) (va_eqt (hs _ (by decide +kernel))) hA, hO, hC, hVv, ?_⟩
  obtain ⟨cell, t1, t2, t3, t4, t5, t6, t7⟩ := hTt
  refine ⟨cell, t1, t2, t3, t4, t5, fun j hj => ?_, t7⟩
  rw [t6 j hj]
  have hj5 : j < 5 := hj
  rcases (show j = 0 ∨ j = 1 ∨ j = 2 ∨ j = 3 ∨ j = 4 by omega) with rfl | rfl | rfl | rfl | rfl <;> rfl
theorem LInv_0 : LInv 0 0 0 0 0 0 0 (fun _ => 0) (fun _ => 0) (fun _ => 0) (fun _ => 0) (fun _ => 0) (fun _ => 0) (fun _ => 0) (fun _ => 0) (fun _ => 0) (fun _ => 0) (fun _ => 0) (fun _ => 0) (fun _ => 0) (fun _ => 0) (fun _ => 0) (fun _ => 0) (fun _ => 0) (fun _ => 0) (fun _ => 0) (fun _ => 0) (fun _ => 0) (fun _ => 0) (fun _ => 0) (fun _ => 0) (fun _ => 0) (fun _ => 0) (fun _ => 0) (fun _ => 0) (fun _ => 0) (fun _ => 0) (fun _ => 0) 0 0 0 0 0 (-1) 0 0 0 := by
  have e1 : ∀ j : Nat, j < 0 → False := fun j h => by omega
  refine ⟨⟨Or.inl ⟨rfl, rfl⟩, by omega, by omega, ?_⟩, LI_z, ⟨Or.inl ⟨rfl, rfl⟩, by omega, by omega, ?_⟩, LI_z, ⟨by omega, by omega, by omega, by omega⟩, Or.inl ⟨rfl, by omega⟩⟩
  · refine ⟨?_, ?_, ?_, ?_, ?_, ?_, ?_, ?_, ?_, ?_, ?_, ?_, ?_, ?_⟩
    all_goals first | (intro j hj; exact absurd hj (by omega)) | (intro q j hq; exact absurd hq (by omega)) | (intro a b hab hb; exact absurd hb (by omega))
  · refine ⟨?_, ?_, ?_, ?_, ?_, ?_, ?_, ?_, ?_, ?_, ?_, ?_, ?_⟩
    all_goals first | (intro j hj; exact absurd hj (by omega)) | (intro a b hab hb; exact absurd hb (by omega))
set_option maxHeartbeats 8000000 in
set_option maxRecDepth 100000 in
theorem whole_start {p : Program} {e : Env} {s : State} {m : MethodId} {below : List Frame} {meth : Method} {c : Code} (l : Launch) (hflags : l.flags = flags0) {b L : Nat} {xs : Nat → Int32} (hL : L ≤ 2560) (C0 : lw_At p s m meth c b L xs) : W p l e room_1 s m #[Value.ref b] below meth c s.heap [] 0 0 (lw_Z below #[Value.ref b] s) (entryFrame m ([Value.ref b] : List Value).toArray 4) := by
  obtain ⟨hx, hb, hr, hml, hown, hts, hV, hbl, hlocks, hgv⟩ := id C0
  obtain ⟨bs, hbs⟩ : ∃ q, q = b := ⟨_, rfl⟩
  rw [← hbs] at hts hV hbl hgv ⊢
  have hA : ∀ q : Nat, s.heap.size ≤ q → (fun q : Nat => s.heap.size ≤ q) q := fun _ h9 => h9
  have htT : ∀ w ∈ TT, w.before #[Value.ref bs] s = true := fun w hw => hts w (TT_good hw).1
  obtain ⟨c0, iS0, hKn0⟩ := u_known (C := RX0) (T := TX0) (N := 2) (n := 2) htT inT_X0 (htT _ qa_X0)
  obtain ⟨c1, iS1, hKn1⟩ := u_known (C := RX1) (T := TX1) (N := 11) (n := 11) htT inT_X1 (htT _ qa_X1)
  obtain ⟨c2, iS2, hKn2⟩ := u_known (C := RX2) (T := TX2) (N := 2) (n := 2) htT inT_X2 (htT _ qa_X2)
  obtain ⟨c3, iS3, hKn3⟩ := u_known (C := RX3) (T := TX3) (N := 10) (n := 10) htT inT_X3 (htT _ qa_X3)
  obtain ⟨c4, iS4, hKn4⟩ := u_known (C := RX4) (T := TX4) (N := 32) (n := 32) htT inT_X4 (htT _ qa_X4)
  obtain ⟨D, hKc⟩ : ∃ (D : va_G), ∀ (k : Nat) (q : vw_C), cls[k]? = some q → u_Kn s q.1 q.2.1 q.2.2 (D.1 k) (D.2 k) := by
    refine ⟨(fun k => if k = 0 then c0 else if k = 1 then c1 else if k = 2 then c2 else if k = 3 then c3 else c4, fun k => if k = 0 then iS0 else if k = 1 then iS1 else if k = 2 then iS2 else if k = 3 then iS3 else iS4), ?_⟩
    intro k q hq
    match k, hq with
    | 0, hq => cases hq; exact hKn0
    | 1, hq => cases hq; exact hKn1
    | 2, hq => cases hq; exact hKn2
    | 3, hq => cases hq; exact hKn3
    | 4, hq => cases hq; exact hKn4
    | k + 5, hq => simp [cls] at hq
  obtain ⟨cI, kA, comp, a1, a2, a3⟩ := Cond.arrayClass_spec (htT _ qr_int)
  have hKK : va_K D cls [(cI, .int)] s := by
    refine ⟨hKc, fun k q hq => ?_⟩
    match k, hq with
    | 0, hq => cases hq; exact ⟨fun n z => ⟨fun k h => (by cases h), kA, a2, comp, a3⟩, a1⟩
    | k + 1, hq => simp at hq
  have hE : zE D cI s := ⟨hKK, fun w hw hn => va_Nw.of (nest_on hn) (hts w (List.mem_append_right _ hw))⟩
  have K : zK p s m #[Value.ref bs] meth c cL_law 4 RL ret D cI := ⟨hx, hb, hml, hown, htT, hE, hr, hlocks⟩
  obtain ⟨hx, hb, hml, hown, -, -, -, -⟩ := id K
  obtain ⟨sK, sV, hX⟩ := zS_start (A := fun q : Nat => s.heap.size ≤ q) hgv hts (fun a h9 => Nat.not_le.mpr h9)
  have hS : va_S (fun q : Nat => s.heap.size ≤ q) s.heap s.heap [] := va_S.rf
  have hP : va_P D cls [] s.heap := fun k q h => by simp at h
  have hD : va_D (fun q : Nat => s.heap.size ≤ q) [] := ⟨fun i j p q h => by simp at h, fun k q h => by simp at h⟩
  have hl := lv_entry ([.ref bs]) (n := 4) (Nat.le_of_ble_eq_true rfl)
  rw [lg_entry_eq]
  generalize (lg_sl ([.ref bs]) ++ List.replicate (4 - (lg_sl ([.ref bs])).length) Slot.unset).toArray = ls at hl ⊢
  have hl : lv_has ls 4 [(0, .ref bs)] := hl
  refine va_new (D := D) (ci := 3) (C := RX3) (T := TX3) (N := 10) (fs := [.null, .null, .null, .int (zI 0), .int (zI 0), .int (zI 0), .null, .null, .null, .null]) hx hb htT inT_X3 tyX3 tyX3_ok hown (htT _ qx_L_7) (htT _ qa_X3) (htT _ qn_X3) hE.1 hP hD hS hA rfl (by decide) (by decide) (by decide) dL_law_0 (fun x H hP hD hS => ?_)
  have hP : va_P D cls [(x, .inr (3, [.null, .null, .null, .int (zI 0), .int (zI 0), .int (zI 0), .null, .null, .null, .null]))] H := hP
  have hD : va_D (fun q : Nat => s.heap.size ≤ q) [(x, .inr (3, [.null, .null, .null, .int (zI 0), .int (zI 0), .int (zI 0), .null, .null, .null, .null]))] := hD
  refine lv_dup hx hb dL_law_3 rfl ?_
  refine zcall_c (S := ((Nat → Nat) × Nat × (Nat → Nat) × (Nat → Nat) × Nat)) (wc := [(x, .inr (3, [.null, .null, .null, .int (zI 0), .int (zI 0), .int (zI 0), .null, .null, .null, .null]))]) (wr := []) (rest := [.ref x]) (mc := 23) (ms := 316) hP hD hS hA [0] [] rfl rfl (by decide) (by decide) (fun hPc hDc => zrunI (As := []) (rest := [.ref x]) K k_X3_init qm_L_9 ⟨⟨rfl, rfl⟩, ⟨Nat.le_of_ble_eq_true rfl, Nat.le_of_ble_eq_true rfl⟩⟩ hPc hDc (c_X3_init l D cI x _) rfl hl.1 rfl (Nat.le_of_ble_eq_true rfl) dL_law_4 ⟨Nat.le_of_ble_eq_true rfl, Nat.le_of_ble_eq_true rfl⟩) (by decide) (fun u H locs hP hD hS => ?_)
  obtain ⟨b, lp, aN, aJ, wa⟩ := u
  have hP : va_P D cls [cX x b 0 0 0, cP (b 0) lp 0, cR cI lp 22 (fun _ => 0), cT (b 1) aN 0 0 0 0, cR cI (aN 0) 6 (fun _ => 0), cR cI (aN 1) 6 (fun _ => 0), cR cI (aN 2) 72 (fun _ => 0), cR cI (aN 3) 12 (fun _ => 0), cR cI (aN 4) 6 (fun _ => 0), cR cI (aN 5) 6 (fun _ => 0), cR cI (aN 6) 6 (fun _ => 0), cT (b 2) aJ 0 0 0 0, cR cI (aJ 0) 6 (fun _ => 0), cR cI (aJ 1) 6 (fun _ => 0), cR cI (aJ 2) 72 (fun _ => 0), cR cI (aJ 3) 12 (fun _ => 0), cR cI (aJ 4) 6 (fun _ => 0), cR cI (aJ 5) 6 (fun _ => 0), cR cI (aJ 6) 6 (fun _ => 0), cW (b 3) wa 0, cR cI wa 12 (fun _ => 0), cR cI (b 4) 12 (fun _ => 0), cR cI (b 5) 12 (fun _ => 0), cR cI (b 6) 4 (fun _ => 0)] H := hP
  have hD : va_D (fun q : Nat => s.heap.size ≤ q) [cX x b 0 0 0, cP (b 0) lp 0, cR cI lp 22 (fun _ => 0), cT (b 1) aN 0 0 0 0, cR cI (aN 0) 6 (fun _ => 0), cR cI (aN 1) 6 (fun _ => 0), cR cI (aN 2) 72 (fun _ => 0), cR cI (aN 3) 12 (fun _ => 0), cR cI (aN 4) 6 (fun _ => 0), cR cI (aN 5) 6 (fun _ => 0), cR cI (aN 6) 6 (fun _ => 0), cT (b 2) aJ 0 0 0 0, cR cI (aJ 0) 6 (fun _ => 0), cR cI (aJ 1) 6 (fun _ => 0), cR cI (aJ 2) 72 (fun _ => 0), cR cI (aJ 3) 12 (fun _ => 0), cR cI (aJ 4) 6 (fun _ => 0), cR cI (aJ 5) 6 (fun _ => 0), cR cI (aJ 6) 6 (fun _ => 0), cW (b 3) wa 0, cR cI wa 12 (fun _ => 0), cR cI (b 4) 12 (fun _ => 0), cR cI (b 5) 12 (fun _ => 0), cR cI (b 6) 4 (fun _ => 0)] := hD
  refine lv_astore_n (lv' := [(1, .ref x), (0, .ref bs)]) hx hb dL_law_7 rfl hl (by decide) rfl (fun ls hl => ?_)
  refine va_new (D := D) (ci := 4) (C := RX4) (T := TX4) (N := 32) (fs := [.null, .int (zI 0), .int (zI 0), .int (zI 0), .int (zI 0), .int (zI 0), .null, .null, .null, .null, .int (zI 0), .int (zI 0), .int (zI 0), .int (zI 0), .null, .null, .null, .int (zI 0), .int (zI 0), .null, .null, .int (zI 0), .null, .int (zI 0), .int (zI 0), .int (zI 0), .int (zI 0), .null, .null, .null, .null, .long (zL 0)]) hx hb htT inT_X4 tyX4 tyX4_ok hown (htT _ qx_L_10) (htT _ qa_X4) (htT _ qn_X4) hE.1 hP hD hS hA rfl (by decide) (by decide) (by decide) dL_law_8 (fun h H hP hD hS => ?_)
  have hP : va_P D cls [cX x b 0 0 0, cP (b 0) lp 0, cR cI lp 22 (fun _ => 0), cT (b 1) aN 0 0 0 0, cR cI (aN 0) 6 (fun _ => 0), cR cI (aN 1) 6 (fun _ => 0), cR cI (aN 2) 72 (fun _ => 0), cR cI (aN 3) 12 (fun _ => 0), cR cI (aN 4) 6 (fun _ => 0), cR cI (aN 5) 6 (fun _ => 0), cR cI (aN 6) 6 (fun _ => 0), cT (b 2) aJ 0 0 0 0, cR cI (aJ 0) 6 (fun _ => 0), cR cI (aJ 1) 6 (fun _ => 0), cR cI (aJ 2) 72 (fun _ => 0), cR cI (aJ 3) 12 (fun _ => 0), cR cI (aJ 4) 6 (fun _ => 0), cR cI (aJ 5) 6 (fun _ => 0), cR cI (aJ 6) 6 (fun _ => 0), cW (b 3) wa 0, cR cI wa 12 (fun _ => 0), cR cI (b 4) 12 (fun _ => 0), cR cI (b 5) 12 (fun _ => 0), cR cI (b 6) 4 (fun _ => 0), (h, .inr (4, [.null, .int (zI 0), .int (zI 0), .int (zI 0), .int (zI 0), .int (zI 0), .null, .null, .null, .null, .int (zI 0), .int (zI 0), .int (zI 0), .int (zI 0), .null, .null, .null, .int (zI 0), .int (zI 0), .null, .null, .int (zI 0), .null, .int (zI 0), .int (zI 0), .int (zI 0), .int (zI 0), .null, .null, .null, .null, .long (zL 0)]))] H := hP
  have hD : va_D (fun q : Nat => s.heap.size ≤ q) [cX x b 0 0 0, cP (b 0) lp 0, cR cI lp 22 (fun _ => 0), cT (b 1) aN 0 0 0 0, cR cI (aN 0) 6 (fun _ => 0), cR cI (aN 1) 6 (fun _ => 0), cR cI (aN 2) 72 (fun _ => 0), cR cI (aN 3) 12 (fun _ => 0), cR cI (aN 4) 6 (fun _ => 0), cR cI (aN 5) 6 (fun _ => 0), cR cI (aN 6) 6 (fun _ => 0), cT (b 2) aJ 0 0 0 0, cR cI (aJ 0) 6 (fun _ => 0), cR cI (aJ 1) 6 (fun _ => 0), cR cI (aJ 2) 72 (fun _ => 0), cR cI (aJ 3) 12 (fun _ => 0), cR cI (aJ 4) 6 (fun _ => 0), cR cI (aJ 5) 6 (fun _ => 0), cR cI (aJ 6) 6 (fun _ => 0), cW (b 3) wa 0, cR cI wa 12 (fun _ => 0), cR cI (b 4) 12 (fun _ => 0), cR cI (b 5) 12 (fun _ => 0), cR cI (b 6) 4 (fun _ => 0), (h, .inr (4, [.null, .int (zI 0), .int (zI 0), .int (zI 0), .int (zI 0), .int (zI 0), .null, .null, .null, .null, .int (zI 0), .int (zI 0), .int (zI 0), .int (zI 0), .null, .null, .null, .int (zI 0), .int (zI 0), .null, .null, .int (zI 0), .null, .int (zI 0), .int (zI 0), .int (zI 0), .int (zI 0), .null, .null, .null, .null, .long (zL 0)]))] := hD
  refine lv_dup hx hb dL_law_11 rfl ?_
  refine zcall_c (S := (Nat → Nat)) (wc := [(h, .inr (4, [.null, .int (zI 0), .int (zI 0), .int (zI 0), .int (zI 0), .int (zI 0), .null, .null, .null, .null, .int (zI 0), .int (zI 0), .int (zI 0), .int (zI 0), .null, .null, .null, .int (zI 0), .int (zI 0), .null, .null, .int (zI 0), .null, .int (zI 0), .int (zI 0), .int (zI 0), .int (zI 0), .null, .null, .null, .null, .long (zL 0)]))]) (wr := [cX x b 0 0 0, cP (b 0) lp 0, cR cI lp 22 (fun _ => 0), cT (b 1) aN 0 0 0 0, cR cI (aN 0) 6 (fun _ => 0), cR cI (aN 1) 6 (fun _ => 0), cR cI (aN 2) 72 (fun _ => 0), cR cI (aN 3) 12 (fun _ => 0), cR cI (aN 4) 6 (fun _ => 0), cR cI (aN 5) 6 (fun _ => 0), cR cI (aN 6) 6 (fun _ => 0), cT (b 2) aJ 0 0 0 0, cR cI (aJ 0) 6 (fun _ => 0), cR cI (aJ 1) 6 (fun _ => 0), cR cI (aJ 2) 72 (fun _ => 0), cR cI (aJ 3) 12 (fun _ => 0), cR cI (aJ 4) 6 (fun _ => 0), cR cI (aJ 5) 6 (fun _ => 0), cR cI (aJ 6) 6 (fun _ => 0), cW (b 3) wa 0, cR cI wa 12 (fun _ => 0), cR cI (b 4) 12 (fun _ => 0), cR cI (b 5) 12 (fun _ => 0), cR cI (b 6) 4 (fun _ => 0)]) (rest := [.ref h]) (mc := 15) (ms := 178) hP hD hS hA [24] [0, 1, 2, 3, 4, 5, 6, 7, 8, 9, 10, 11, 12, 13, 14, 15, 16, 17, 18, 19, 20, 21, 22, 23] rfl rfl (by decide) (by decide) (fun hPc hDc => zrunI (As := []) (rest := [.ref h]) K k_X4_init qm_L_12 ⟨⟨rfl, rfl⟩, ⟨Nat.le_of_ble_eq_true rfl, Nat.le_of_ble_eq_true rfl⟩⟩ hPc hDc (c_X4_init l D cI h _) rfl hl.1 rfl (Nat.le_of_ble_eq_true rfl) dL_law_12 ⟨Nat.le_of_ble_eq_true rfl, Nat.le_of_ble_eq_true rfl⟩) (by decide) (fun bm H locs hP hD hS => ?_)
  have hP : va_P D cls [cX x b 0 0 0, cP (b 0) lp 0, cR cI lp 22 (fun _ => 0), cT (b 1) aN 0 0 0 0, cR cI (aN 0) 6 (fun _ => 0), cR cI (aN 1) 6 (fun _ => 0), cR cI (aN 2) 72 (fun _ => 0), cR cI (aN 3) 12 (fun _ => 0), cR cI (aN 4) 6 (fun _ => 0), cR cI (aN 5) 6 (fun _ => 0), cR cI (aN 6) 6 (fun _ => 0), cT (b 2) aJ 0 0 0 0, cR cI (aJ 0) 6 (fun _ => 0), cR cI (aJ 1) 6 (fun _ => 0), cR cI (aJ 2) 72 (fun _ => 0), cR cI (aJ 3) 12 (fun _ => 0), cR cI (aJ 4) 6 (fun _ => 0), cR cI (aJ 5) 6 (fun _ => 0), cR cI (aJ 6) 6 (fun _ => 0), cW (b 3) wa 0, cR cI wa 12 (fun _ => 0), cR cI (b 4) 12 (fun _ => 0), cR cI (b 5) 12 (fun _ => 0), cR cI (b 6) 4 (fun _ => 0), cM h bm 0 0 0 0 0 0 0 (-1) 0 0 0 0 0 0 0 0 0, cR cI (bm 0) 22 (fun _ => 0), cR cI (bm 1) 6 (fun _ => 0), cR cI (bm 2) 6 (fun _ => 0), cR cI (bm 3) 12 (fun _ => 0), cR cI (bm 4) 12 (fun _ => 0), cR cI (bm 5) 12 (fun _ => 0), cR cI (bm 6) 12 (fun _ => 0), cR cI (bm 7) 12 (fun _ => 0), cR cI (bm 8) 12 (fun _ => 0), cR cI (bm 9) 12 (fun _ => 0), cR cI (bm 10) 18 (fun _ => 0), cR cI (bm 11) 6 (fun _ => 0), cR cI (bm 12) 6 (fun _ => 0), cR cI (bm 13) 12 (fun _ => 0), cR cI (bm 14) 18 (fun _ => 0)] H := hP
  have hD : va_D (fun q : Nat => s.heap.size ≤ q) [cX x b 0 0 0, cP (b 0) lp 0, cR cI lp 22 (fun _ => 0), cT (b 1) aN 0 0 0 0, cR cI (aN 0) 6 (fun _ => 0), cR cI (aN 1) 6 (fun _ => 0), cR cI (aN 2) 72 (fun _ => 0), cR cI (aN 3) 12 (fun _ => 0), cR cI (aN 4) 6 (fun _ => 0), cR cI (aN 5) 6 (fun _ => 0), cR cI (aN 6) 6 (fun _ => 0), cT (b 2) aJ 0 0 0 0, cR cI (aJ 0) 6 (fun _ => 0), cR cI (aJ 1) 6 (fun _ => 0), cR cI (aJ 2) 72 (fun _ => 0), cR cI (aJ 3) 12 (fun _ => 0), cR cI (aJ 4) 6 (fun _ => 0), cR cI (aJ 5) 6 (fun _ => 0), cR cI (aJ 6) 6 (fun _ => 0), cW (b 3) wa 0, cR cI wa 12 (fun _ => 0), cR cI (b 4) 12 (fun _ => 0), cR cI (b 5) 12 (fun _ => 0), cR cI (b 6) 4 (fun _ => 0), cM h bm 0 0 0 0 0 0 0 (-1) 0 0 0 0 0 0 0 0 0, cR cI (bm 0) 22 (fun _ => 0), cR cI (bm 1) 6 (fun _ => 0), cR cI (bm 2) 6 (fun _ => 0), cR cI (bm 3) 12 (fun _ => 0), cR cI (bm 4) 12 (fun _ => 0), cR cI (bm 5) 12 (fun _ => 0), cR cI (bm 6) 12 (fun _ => 0), cR cI (bm 7) 12 (fun _ => 0), cR cI (bm 8) 12 (fun _ => 0), cR cI (bm 9) 12 (fun _ => 0), cR cI (bm 10) 18 (fun _ => 0), cR cI (bm 11) 6 (fun _ => 0), cR cI (bm 12) 6 (fun _ => 0), cR cI (bm 13) 12 (fun _ => 0), cR cI (bm 14) 18 (fun _ => 0)] := hD
  refine lv_astore_n (lv' := [(2, .ref h), (1, .ref x), (0, .ref bs)]) hx hb dL_law_15 rfl hl (by decide) rfl (fun ls hl => ?_)
  refine lv_iconst (v := zI ((0 : Nat) : Int)) hx hb dL_law_16 rfl ?_
  refine lv_istore_n (lv' := [(3, .int (zI ((0 : Nat) : Int))), (2, .ref h), (1, .ref x), (0, .ref bs)]) hx hb dL_law_17 rfl hl (by decide) rfl (fun ls hl => ?_)
  refine W.widen (k := 40) (n := 536) (by decide) (by decide) ?_
  exact law_loop l K hX hV hbl hL (L + 2) 0 0 0 0 0 0 0 0 (fun _ => 0) (fun _ => 0) (fun _ => 0) (fun _ => 0) (fun _ => 0) (fun _ => 0) (fun _ => 0) (fun _ => 0) (fun _ => 0) (fun _ => 0) (fun _ => 0) (fun _ => 0) (fun _ => 0) (fun _ => 0) (fun _ => 0) (fun _ => 0) (fun _ => 0) (fun _ => 0) (fun _ => 0) (fun _ => 0) (fun _ => 0) (fun _ => 0) (fun _ => 0) (fun _ => 0) (fun _ => 0) (fun _ => 0) (fun _ => 0) (fun _ => 0) (fun _ => 0) (fun _ => 0) (fun _ => 0) (fun _ => 0) (fun _ => 0) (fun _ => 0) (fun _ => 0) (fun _ => 0) (fun _ => 0) (fun _ => 0) (fun _ => 0) (fun _ => 0) (fun _ => 0) 0 0 0 0 0 (-1) 0 0 0 0 0 0 0 0 0 0 (by omega) (by omega) LInv_0 H locs ls hP hD hS (lv_sub hl [3, 2, 1, 0] rfl)
