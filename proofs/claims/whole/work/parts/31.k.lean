set_option maxHeartbeats 4000000 in
set_option maxRecDepth 100000 in
theorem c_X4_bringOf (l : Launch) (D : va_G) (cI : ClassId) (h : Nat) (b : Nat → Nat) (pm n k d rr hd sm : Nat) (kr kq ku s0 s1 s2 s3 s4 s5 hs : Int) (g0 g1 : Nat → Int) (κ ν : Nat → Nat) (g3 q7 : Nat → Int) (π : Nat → Nat) (x1 p1 w0 : Nat) (hn : 2 ≤ n ∧ n ≤ 12) (hk : k ≤ 6) (hg0 : ∀ j, j < k → g0 j = ((κ j : Nat) : Int)) (hκ : ∀ j, j < k → κ j ≤ 4) (hg1 : ∀ j, j < k → g1 j = ((ν j : Nat) : Int)) (hν : ∀ j, j < k → ν j ≤ 9) (hg3 : ∀ j, j < n → g3 j = ((π j : Nat) : Int)) (hπ : ∀ j, j < n → π j < n) (hπi : inj π n) (hx1 : x1 < n) (hp1 : p1 < n) (hk1 : 1 ≤ k) (hw0 : w0 < 2) : zMi l yX4_bringOf cX4_bringOf 6 (some .int) ({ frames := 5, cells := 0, slots := 0, locals := 119 }) D cI [.ref h, .int (zI ((x1 : Nat) : Int)), .int (zI ((p1 : Nat) : Int)), .int (zI ((w0 : Nat) : Int))] [cM h b ((pm : Nat) : Int) ((n : Nat) : Int) ((k : Nat) : Int) ((d : Nat) : Int) ((rr : Nat) : Int) ((hd : Nat) : Int) ((sm : Nat) : Int) kr kq ku s0 s1 s2 s3 s4 s5 hs, cR cI (b 1) 6 g0, cR cI (b 2) 6 g1, cR cI (b 3) 12 g3, cR cI (b 7) 12 q7] (fun (z : Int) (u : (Nat → Int)) => (z = (fBri (mus n κ ν) n k π x1 p1 w0)) ∧ (-2147483648 ≤ z ∧ z < 2147483648)) (fun (u : (Nat → Int)) => [cM h b ((pm : Nat) : Int) ((n : Nat) : Int) ((k : Nat) : Int) ((d : Nat) : Int) ((rr : Nat) : Int) ((hd : Nat) : Int) ((sm : Nat) : Int) kr kq ku s0 s1 s2 s3 s4 s5 hs, cR cI (b 1) 6 g0, cR cI (b 2) 6 g1, cR cI (b 3) 12 g3, cR cI (b 7) 12 u]) := by
  intro sz
  refine zstart rfl (by decide) (Nat.le_of_ble_eq_true rfl) ?_
  intro p e s m below meth c ls K hnm hsz hP hD hS hl
  generalize hargs : ([.ref h, .int (zI ((x1 : Nat) : Int)), .int (zI ((p1 : Nat) : Int)), .int (zI ((w0 : Nat) : Int))] : List Value).toArray = args at K ⊢
  generalize hQf : MQ below _ args s _ _ _ = Qf
  have K : zK p s m args meth c cX4_bringOf 6 RX4 (some .int) D cI := K
  obtain ⟨hx, hb, hml, hown, hts, hE, -, -⟩ := id K
  have hA := zhA (ws0 := [cM h b ((pm : Nat) : Int) ((n : Nat) : Int) ((k : Nat) : Int) ((d : Nat) : Int) ((rr : Nat) : Int) ((hd : Nat) : Int) ((sm : Nat) : Int) kr kq ku s0 s1 s2 s3 s4 s5 hs, cR cI (b 1) 6 g0, cR cI (b 2) 6 g1, cR cI (b 3) 12 g3, cR cI (b 7) 12 q7]) hsz
  have hl : lv_has ls 6 [(0, .ref h), (1, .int (zI ((x1 : Nat) : Int))), (2, .int (zI ((p1 : Nat) : Int))), (3, .int (zI ((w0 : Nat) : Int)))] := hl
  have hμ := mus_lt (k := k) hn.2 hκ hν
  have hμi := mus_inj (k := k) hn.2 hκ hν
  have hρ : ∀ j, j < n → rdc (mus n κ ν) k j < n := fun j hj => rdc_lt hμ (Nat.le_refl k) hj
  have hρi : inj (rdc (mus n κ ν) k) n := rdc_inj hμ hμi (Nat.le_refl k)
  have hpl : plo π n x1 < n := Nat.mod_lt _ (by omega)
  obtain ⟨f0, hf0⟩ : ∃ q, q = plo π n x1 := ⟨_, rfl⟩
  obtain ⟨T, hT⟩ : ∃ T, T = dT (mus n κ ν) k p1 (n - 1) := ⟨_, rfl⟩
  have hdf := dT_r (mus n κ ν) k p1 (n - 1) f0
  rw [← hT] at hdf
  have hbr : fBri (mus n κ ν) n k π x1 p1 w0 = if w0 = 0 then T f0 else (if 0 < T f0 then fsI (fun a => decide (T (mus n κ ν a f0) = T f0 - 1)) k else -1) := by rw [fBri, ← hf0, ← hT]
  refine lv_aload_n hx hb dX4_bringOf_0 rfl (lv_at hl 0 rfl) ?_
  refine lv_iload_n hx hb dX4_bringOf_1 rfl (lv_at hl 2 rfl) ?_
  refine zcall_v (wc := [cM h b ((pm : Nat) : Int) ((n : Nat) : Int) ((k : Nat) : Int) ((d : Nat) : Int) ((rr : Nat) : Int) ((hd : Nat) : Int) ((sm : Nat) : Int) kr kq ku s0 s1 s2 s3 s4 s5 hs, cR cI (b 1) 6 g0, cR cI (b 2) 6 g1, cR cI (b 7) 12 q7]) (wr := [cR cI (b 3) 12 g3]) (rest := []) hE hP hD hS hA [0, 1, 2, 4] [3] [1, 2, 3, 0, 4] rfl rfl (by decide) (by decide) (by decide) (fun (u : (Nat → Int)) => [cM h b ((pm : Nat) : Int) ((n : Nat) : Int) ((k : Nat) : Int) ((d : Nat) : Int) ((rr : Nat) : Int) ((hd : Nat) : Int) ((sm : Nat) : Int) kr kq ku s0 s1 s2 s3 s4 s5 hs, cR cI (b 1) 6 g0, cR cI (b 2) 6 g1, cR cI (b 3) 12 g3, cR cI (b 7) 12 u]) (fun u => rfl) (fun hPc hDc => zrunV (As := [.int (zI ((p1 : Nat) : Int))]) (rest := []) (q0 := 0) (ci := 4) K k_X4_layFar qm_X4_200 ⟨⟨rfl, rfl⟩, ⟨Nat.le_of_ble_eq_true rfl, Nat.le_of_ble_eq_true rfl⟩⟩ rfl rfl hPc hDc (c_X4_layFar l D cI h b pm n k d rr hd sm kr kq ku s0 s1 s2 s3 s4 s5 hs g0 g1 κ ν q7 p1 (by first | assumption | omega) (by first | assumption | omega) (by first | assumption | omega) (by first | assumption | omega) (by first | assumption | omega) (by first | assumption | omega) (by first | assumption | omega) (by first | assumption | omega) _) rfl hl.1 rfl (Nat.le_of_ble_eq_true rfl) dX4_bringOf_2 ⟨Nat.zero_le _, Nat.zero_le _⟩) (by decide) (fun u H locs hpost hP hD hS => ?_)
  obtain ⟨o_1, hu⟩ : ∃ z, z = u := ⟨_, rfl⟩
  subst hu
  have ho7_2 := hpost
  have ho7_2 : ∀ j, j < n → o_1 j = dT (mus n κ ν) k p1 (n - 1) j := ho7_2
  have hP : va_P D cls [cM h b ((pm : Nat) : Int) ((n : Nat) : Int) ((k : Nat) : Int) ((d : Nat) : Int) ((rr : Nat) : Int) ((hd : Nat) : Int) ((sm : Nat) : Int) kr kq ku s0 s1 s2 s3 s4 s5 hs, cR cI (b 1) 6 g0, cR cI (b 2) 6 g1, cR cI (b 3) 12 g3, cR cI (b 7) 12 o_1] H := hP
  have hD : va_D (va_A [cM h b ((pm : Nat) : Int) ((n : Nat) : Int) ((k : Nat) : Int) ((d : Nat) : Int) ((rr : Nat) : Int) ((hd : Nat) : Int) ((sm : Nat) : Int) kr kq ku s0 s1 s2 s3 s4 s5 hs, cR cI (b 1) 6 g0, cR cI (b 2) 6 g1, cR cI (b 3) 12 g3, cR cI (b 7) 12 q7] sz) [cM h b ((pm : Nat) : Int) ((n : Nat) : Int) ((k : Nat) : Int) ((d : Nat) : Int) ((rr : Nat) : Int) ((hd : Nat) : Int) ((sm : Nat) : Int) kr kq ku s0 s1 s2 s3 s4 s5 hs, cR cI (b 1) 6 g0, cR cI (b 2) 6 g1, cR cI (b 3) 12 g3, cR cI (b 7) 12 o_1] := hD
  have ho7 : ∀ j, j < n → o_1 j = T j := fun j hj => by rw [ho7_2 j hj, hT]
  refine lv_aload_n hx hb dX4_bringOf_5 rfl (lv_at hl 0 rfl) ?_
  refine lv_iload_n hx hb dX4_bringOf_6 rfl (lv_at hl 1 rfl) ?_
  refine zcall_i (wc := [cM h b ((pm : Nat) : Int) ((n : Nat) : Int) ((k : Nat) : Int) ((d : Nat) : Int) ((rr : Nat) : Int) ((hd : Nat) : Int) ((sm : Nat) : Int) kr kq ku s0 s1 s2 s3 s4 s5 hs, cR cI (b 3) 12 g3]) (wr := [cR cI (b 1) 6 g0, cR cI (b 2) 6 g1, cR cI (b 7) 12 o_1]) (rest := []) hE hP hD hS hA [0, 3] [1, 2, 4] [3, 0, 1, 4, 2] rfl rfl (by decide) (by decide) (by decide) (fun (u : Unit) => [cM h b ((pm : Nat) : Int) ((n : Nat) : Int) ((k : Nat) : Int) ((d : Nat) : Int) ((rr : Nat) : Int) ((hd : Nat) : Int) ((sm : Nat) : Int) kr kq ku s0 s1 s2 s3 s4 s5 hs, cR cI (b 1) 6 g0, cR cI (b 2) 6 g1, cR cI (b 3) 12 g3, cR cI (b 7) 12 o_1]) (fun u => rfl) (fun hPc hDc => zrunV (As := [.int (zI ((x1 : Nat) : Int))]) (rest := []) (q0 := 0) (ci := 4) K k_X4_placeOf qm_X4_203 ⟨⟨rfl, rfl⟩, ⟨Nat.le_of_ble_eq_true rfl, Nat.le_of_ble_eq_true rfl⟩⟩ rfl rfl hPc hDc (c_X4_placeOf l D cI h b pm n k d rr hd sm kr kq ku s0 s1 s2 s3 s4 s5 hs g3 π x1 (by first | assumption | omega) (by first | assumption | omega) (by first | assumption | omega) (by first | assumption | omega) (by first | assumption | omega) _) rfl hl.1 rfl (Nat.le_of_ble_eq_true rfl) dX4_bringOf_7 ⟨Nat.zero_le _, Nat.zero_le _⟩) (by decide) (fun z u H locs hpost hP hD hS => ?_)
  subst hpost
  have hP : va_P D cls [cM h b ((pm : Nat) : Int) ((n : Nat) : Int) ((k : Nat) : Int) ((d : Nat) : Int) ((rr : Nat) : Int) ((hd : Nat) : Int) ((sm : Nat) : Int) kr kq ku s0 s1 s2 s3 s4 s5 hs, cR cI (b 1) 6 g0, cR cI (b 2) 6 g1, cR cI (b 3) 12 g3, cR cI (b 7) 12 o_1] H := hP
  have hD : va_D (va_A [cM h b ((pm : Nat) : Int) ((n : Nat) : Int) ((k : Nat) : Int) ((d : Nat) : Int) ((rr : Nat) : Int) ((hd : Nat) : Int) ((sm : Nat) : Int) kr kq ku s0 s1 s2 s3 s4 s5 hs, cR cI (b 1) 6 g0, cR cI (b 2) 6 g1, cR cI (b 3) 12 g3, cR cI (b 7) 12 q7] sz) [cM h b ((pm : Nat) : Int) ((n : Nat) : Int) ((k : Nat) : Int) ((d : Nat) : Int) ((rr : Nat) : Int) ((hd : Nat) : Int) ((sm : Nat) : Int) kr kq ku s0 s1 s2 s3 s4 s5 hs, cR cI (b 1) 6 g0, cR cI (b 2) 6 g1, cR cI (b 3) 12 g3, cR cI (b 7) 12 o_1] := hD
  refine W.eq (g2 := F0 m 10 ls [.int (zI (((plo π n x1) : Nat) : Int))]) rfl ?_
  refine W.eq (g2 := F0 m 10 ls [.int (zI ((f0 : Nat) : Int))]) (by rw [show ((((plo π n x1) : Nat) : Int) : Int) = ((f0 : Nat) : Int) from by rw [hf0]]) ?_
  refine lv_istore (lv' := [(4, .int (zI ((f0 : Nat) : Int))), (0, .ref h), (1, .int (zI ((x1 : Nat) : Int))), (2, .int (zI ((p1 : Nat) : Int))), (3, .int (zI ((w0 : Nat) : Int)))]) hx hb dX4_bringOf_10 hl (by decide) rfl (fun ls hl => ?_)
  refine lv_iload_n hx hb dX4_bringOf_12 rfl (lv_at hl 4 rfl) ?_
  refine z_if_eq (tgt := 27) hx hb (by omega) dX4_bringOf_13 (by decide) (fun c_13 => ?_) (fun c_13 => ?_)
  · refine lv_iload_n hx hb dX4_bringOf_27 rfl (lv_at hl 4 rfl) ?_
    refine z_if_ne (tgt := 41) hx hb (by omega) dX4_bringOf_28 (by decide) (fun c_28 => ?_) (fun c_28 => ?_)
    · refine lv_iconst (v := zI (-1)) hx hb dX4_bringOf_41 rfl ?_
      rw [← hQf]
      exact z_iret K hS (o_1) ⟨(by rw [hbr]; first | (rw [if_pos (by omega)]; done) | (rw [if_neg (by omega), if_neg (by omega)])), (by omega)⟩ hP hD dX4_bringOf_42
    · refine lv_aload_n hx hb dX4_bringOf_31 rfl (lv_at hl 1 rfl) ?_
      refine va_get (D := D) (ci := 4) (v := .ref (b 7)) (C := RX4) (T := TX4) (N := 32) hx hb hts inT_X4 hown hE.1 hP 0 rfl rfl 16 (by decide) (hts _ qf_X4_31) (fun _ h9 => h9) rfl dX4_bringOf_32 ?_
      refine lv_iload hx hb dX4_bringOf_35 (lv_at hl 0 rfl) ?_
      refine z_iald hx hb hE hP 4 rfl f0 (by omega) (by omega) (by first | decide | omega) (T f0) (ho7 f0 (by omega)) dX4_bringOf_37 ?_
      refine lv_goto (tgt := 42) hx hb dX4_bringOf_38 (by decide) ?_
      rw [← hQf]
      exact z_iret K hS (o_1) ⟨(by rw [hbr]; first | (rw [if_pos (by omega)]; done) | (rw [if_neg (by omega), if_neg (by omega)])), (by omega)⟩ hP hD dX4_bringOf_42
  · refine lv_aload_n hx hb dX4_bringOf_16 rfl (lv_at hl 1 rfl) ?_
    refine va_get (D := D) (ci := 4) (v := .ref (b 7)) (C := RX4) (T := TX4) (N := 32) hx hb hts inT_X4 hown hE.1 hP 0 rfl rfl 16 (by decide) (hts _ qf_X4_31) (fun _ h9 => h9) rfl dX4_bringOf_17 ?_
    refine lv_iload hx hb dX4_bringOf_20 (lv_at hl 0 rfl) ?_
    refine z_iald hx hb hE hP 4 rfl f0 (by omega) (by omega) (by first | decide | omega) (T f0) (ho7 f0 (by omega)) dX4_bringOf_22 ?_
    refine lv_iconst (v := zI 1) hx hb dX4_bringOf_23 rfl ?_
    refine z_icmp_ge (tgt := 43) hx hb (by omega) dX4_bringOf_24 (by decide) (fun c_24 => ?_) (fun c_24 => ?_)
    · obtain ⟨e0, he0⟩ : ∃ e0 : Nat, T f0 = (e0 : Int) + 1 := ⟨(T f0 - 1).toNat, by omega⟩
      obtain ⟨a0, ha0, ha1⟩ : ∃ a, a < k ∧ T (mus n κ ν a f0) = (e0 : Int) := by rw [hT]; exact dT_chain hμ (n - 1) f0 (by omega) e0 (by rw [← hT]; exact he0)
      refine lv_iconst (v := zI 0) hx hb dX4_bringOf_43 rfl ?_
      refine lv_istore (lv' := [(5, .int (zI 0)), (4, .int (zI ((f0 : Nat) : Int))), (0, .ref h), (1, .int (zI ((x1 : Nat) : Int))), (2, .int (zI ((p1 : Nat) : Int))), (3, .int (zI ((w0 : Nat) : Int)))]) hx hb dX4_bringOf_44 hl (by decide) rfl (fun ls hl => ?_)
      have cut_46 : ∀ (N_46 : Nat), ∀ (i : Nat), k - i < N_46 → (i ≤ a0) → (∀ j, j < i → decide (T (mus n κ ν j f0) = T f0 - 1) = false) → ∀ (H : Heap) (locs : List Loc) (ls : Array Slot), va_P D cls [cM h b ((pm : Nat) : Int) ((n : Nat) : Int) ((k : Nat) : Int) ((d : Nat) : Int) ((rr : Nat) : Int) ((hd : Nat) : Int) ((sm : Nat) : Int) kr kq ku s0 s1 s2 s3 s4 s5 hs, cR cI (b 1) 6 g0, cR cI (b 2) 6 g1, cR cI (b 3) 12 g3, cR cI (b 7) 12 o_1] H → va_D (va_A [cM h b ((pm : Nat) : Int) ((n : Nat) : Int) ((k : Nat) : Int) ((d : Nat) : Int) ((rr : Nat) : Int) ((hd : Nat) : Int) ((sm : Nat) : Int) kr kq ku s0 s1 s2 s3 s4 s5 hs, cR cI (b 1) 6 g0, cR cI (b 2) 6 g1, cR cI (b 3) 12 g3, cR cI (b 7) 12 q7] sz) [cM h b ((pm : Nat) : Int) ((n : Nat) : Int) ((k : Nat) : Int) ((d : Nat) : Int) ((rr : Nat) : Int) ((hd : Nat) : Int) ((sm : Nat) : Int) kr kq ku s0 s1 s2 s3 s4 s5 hs, cR cI (b 1) 6 g0, cR cI (b 2) 6 g1, cR cI (b 3) 12 g3, cR cI (b 7) 12 o_1] → va_S (va_A [cM h b ((pm : Nat) : Int) ((n : Nat) : Int) ((k : Nat) : Int) ((d : Nat) : Int) ((rr : Nat) : Int) ((hd : Nat) : Int) ((sm : Nat) : Int) kr kq ku s0 s1 s2 s3 s4 s5 hs, cR cI (b 1) 6 g0, cR cI (b 2) 6 g1, cR cI (b 3) 12 g3, cR cI (b 7) 12 q7] sz) s.heap H locs → lv_has ls 6 [(0, .ref h), (1, .int (zI ((x1 : Nat) : Int))), (2, .int (zI ((p1 : Nat) : Int))), (3, .int (zI ((w0 : Nat) : Int))), (4, .int (zI ((f0 : Nat) : Int))), (5, .int (zI ((i : Nat) : Int)))] → W p l e ({ frames := 5, cells := 0, slots := 0, locals := 119 }) s m args below meth c H locs 0 0 Qf (F0 m 46 ls []) := by
        intro N_46
        induction N_46 with
        | zero => intro i hm_46; exact absurd hm_46 (Nat.not_lt_zero _)
        | succ N_46 ih_46 =>
          intro i hm_46 hi hno H locs ls hP hD hS hl
          refine lv_aload_n hx hb dX4_bringOf_46 rfl (lv_at hl 0 rfl) ?_
          refine va_get (D := D) (ci := 4) (v := .ref (b 7)) (C := RX4) (T := TX4) (N := 32) hx hb hts inT_X4 hown hE.1 hP 0 rfl rfl 16 (by decide) (hts _ qf_X4_31) (fun _ h9 => h9) rfl dX4_bringOf_47 ?_
          refine lv_aload_n hx hb dX4_bringOf_50 rfl (lv_at hl 0 rfl) ?_
          refine lv_iload hx hb dX4_bringOf_51 (lv_at hl 5 rfl) ?_
          refine lv_iload hx hb dX4_bringOf_53 (lv_at hl 4 rfl) ?_
          have hmi := hμ i f0 (by omega) (by omega)
          have hdm := dT_r (mus n κ ν) k p1 (n - 1) (mus n κ ν i f0)
          rw [← hT] at hdm
          refine zcall_i (wc := [cM h b ((pm : Nat) : Int) ((n : Nat) : Int) ((k : Nat) : Int) ((d : Nat) : Int) ((rr : Nat) : Int) ((hd : Nat) : Int) ((sm : Nat) : Int) kr kq ku s0 s1 s2 s3 s4 s5 hs, cR cI (b 1) 6 g0, cR cI (b 2) 6 g1]) (wr := [cR cI (b 3) 12 g3, cR cI (b 7) 12 o_1]) (rest := [.ref (b 7)]) hE hP hD hS hA [0, 1, 2] [3, 4] [2, 3, 4, 0, 1] rfl rfl (by decide) (by decide) (by decide) (fun (u : Unit) => [cM h b ((pm : Nat) : Int) ((n : Nat) : Int) ((k : Nat) : Int) ((d : Nat) : Int) ((rr : Nat) : Int) ((hd : Nat) : Int) ((sm : Nat) : Int) kr kq ku s0 s1 s2 s3 s4 s5 hs, cR cI (b 1) 6 g0, cR cI (b 2) 6 g1, cR cI (b 3) 12 g3, cR cI (b 7) 12 o_1]) (fun u => rfl) (fun hPc hDc => zrunV (As := [.int (zI ((i : Nat) : Int)), .int (zI ((f0 : Nat) : Int))]) (rest := [.ref (b 7)]) (q0 := 0) (ci := 4) K k_X4_goesOf qm_X4_128 ⟨⟨rfl, rfl⟩, ⟨Nat.le_of_ble_eq_true rfl, Nat.le_of_ble_eq_true rfl⟩⟩ rfl rfl hPc hDc (c_X4_goesOf l D cI h b pm n k d rr hd sm kr kq ku s0 s1 s2 s3 s4 s5 hs g0 g1 κ ν i f0 (by first | assumption | omega) (by first | assumption | omega) (by first | assumption | omega) (by first | assumption | omega) (by first | assumption | omega) (by first | assumption | omega) (by first | assumption | omega) (by first | assumption | omega) _) rfl hl.1 rfl (Nat.le_of_ble_eq_true rfl) dX4_bringOf_55 ⟨Nat.zero_le _, Nat.zero_le _⟩) (by decide) (fun z u H locs hpost hP hD hS => ?_)
          subst hpost
          have hP : va_P D cls [cM h b ((pm : Nat) : Int) ((n : Nat) : Int) ((k : Nat) : Int) ((d : Nat) : Int) ((rr : Nat) : Int) ((hd : Nat) : Int) ((sm : Nat) : Int) kr kq ku s0 s1 s2 s3 s4 s5 hs, cR cI (b 1) 6 g0, cR cI (b 2) 6 g1, cR cI (b 3) 12 g3, cR cI (b 7) 12 o_1] H := hP
          have hD : va_D (va_A [cM h b ((pm : Nat) : Int) ((n : Nat) : Int) ((k : Nat) : Int) ((d : Nat) : Int) ((rr : Nat) : Int) ((hd : Nat) : Int) ((sm : Nat) : Int) kr kq ku s0 s1 s2 s3 s4 s5 hs, cR cI (b 1) 6 g0, cR cI (b 2) 6 g1, cR cI (b 3) 12 g3, cR cI (b 7) 12 q7] sz) [cM h b ((pm : Nat) : Int) ((n : Nat) : Int) ((k : Nat) : Int) ((d : Nat) : Int) ((rr : Nat) : Int) ((hd : Nat) : Int) ((sm : Nat) : Int) kr kq ku s0 s1 s2 s3 s4 s5 hs, cR cI (b 1) 6 g0, cR cI (b 2) 6 g1, cR cI (b 3) 12 g3, cR cI (b 7) 12 o_1] := hD
          refine W.eq (g2 := F0 m 58 ls [.int (zI (((mus n κ ν i f0) : Nat) : Int)), .ref (b 7)]) rfl ?_
          refine z_iald hx hb hE hP 4 rfl (mus n κ ν i f0) (by omega) (by omega) (by first | decide | omega) (T (mus n κ ν i f0)) (ho7 _ hmi) dX4_bringOf_58 ?_
          refine lv_aload_n hx hb dX4_bringOf_59 rfl (lv_at hl 0 rfl) ?_
          refine va_get (D := D) (ci := 4) (v := .ref (b 7)) (C := RX4) (T := TX4) (N := 32) hx hb hts inT_X4 hown hE.1 hP 0 rfl rfl 16 (by decide) (hts _ qf_X4_31) (fun _ h9 => h9) rfl dX4_bringOf_60 ?_
          refine lv_iload hx hb dX4_bringOf_63 (lv_at hl 4 rfl) ?_
          refine z_iald hx hb hE hP 4 rfl f0 (by omega) (by omega) (by first | decide | omega) (T f0) (ho7 f0 (by omega)) dX4_bringOf_65 ?_
          refine lv_iconst (v := zI 1) hx hb dX4_bringOf_66 rfl ?_
          refine z_isub hx hb (T f0 - 1) rfl dX4_bringOf_67 ?_
          refine z_icmp_eq (tgt := 77) hx hb (by omega) dX4_bringOf_68 (by decide) (fun c_68 => ?_) (fun c_68 => ?_)
          · refine lv_iload hx hb dX4_bringOf_77 (lv_at hl 5 rfl) ?_
            rw [← hQf]
            exact z_iret K hS (o_1) ⟨(by rw [hbr, if_neg (by omega), if_pos (by omega)]; unfold fsI; rw [fa_is (m := i) hno (Or.inr ⟨by omega, by simp; omega⟩), if_pos (by omega)]), (by omega)⟩ hP hD dX4_bringOf_79
          · have hne : i ≠ a0 := fun h9 => c_68 (by rw [h9, ha1]; omega)
            refine z_iinc (k := 5) (lv' := [(5, .int (zI (((i + 1) : Nat) : Int))), (0, .ref h), (1, .int (zI ((x1 : Nat) : Int))), (2, .int (zI ((p1 : Nat) : Int))), (3, .int (zI ((w0 : Nat) : Int))), (4, .int (zI ((f0 : Nat) : Int)))]) hx hb (((i + 1) : Nat) : Int) (by omega) dX4_bringOf_71 hl rfl (by decide) rfl (fun ls hl => ?_)
            refine lv_goto (tgt := 46) hx hb dX4_bringOf_74 (by decide) ?_
            exact ih_46 (i + 1) (by omega) (by omega) (by intro j hj; rcases Nat.lt_or_ge j i with h1 | h1; exact hno j h1; rw [show j = i by omega]; simp; omega) _ _ _ hP hD hS (lv_sub hl [1, 2, 3, 4, 5, 0] rfl)
      exact cut_46 (k - 0 + 1) 0 (Nat.lt_succ_self _) (by omega) (by intro j hj; omega) _ _ _ hP hD hS (lv_sub hl [2, 3, 4, 5, 1, 0] rfl)
    · refine lv_iload_n hx hb dX4_bringOf_27 rfl (lv_at hl 4 rfl) ?_
      refine z_if_ne (tgt := 41) hx hb (by omega) dX4_bringOf_28 (by decide) (fun c_28 => ?_) (fun c_28 => ?_)
      · refine lv_iconst (v := zI (-1)) hx hb dX4_bringOf_41 rfl ?_
        rw [← hQf]
        exact z_iret K hS (o_1) ⟨(by rw [hbr]; first | (rw [if_pos (by omega)]; done) | (rw [if_neg (by omega), if_neg (by omega)])), (by omega)⟩ hP hD dX4_bringOf_42
      · refine lv_aload_n hx hb dX4_bringOf_31 rfl (lv_at hl 1 rfl) ?_
        refine va_get (D := D) (ci := 4) (v := .ref (b 7)) (C := RX4) (T := TX4) (N := 32) hx hb hts inT_X4 hown hE.1 hP 0 rfl rfl 16 (by decide) (hts _ qf_X4_31) (fun _ h9 => h9) rfl dX4_bringOf_32 ?_
        refine lv_iload hx hb dX4_bringOf_35 (lv_at hl 0 rfl) ?_
        refine z_iald hx hb hE hP 4 rfl f0 (by omega) (by omega) (by first | decide | omega) (T f0) (ho7 f0 (by omega)) dX4_bringOf_37 ?_
        refine lv_goto (tgt := 42) hx hb dX4_bringOf_38 (by decide) ?_
        rw [← hQf]
        exact z_iret K hS (o_1) ⟨(by rw [hbr]; first | (rw [if_pos (by omega)]; done) | (rw [if_neg (by omega), if_neg (by omega)])), (by omega)⟩ hP hD dX4_bringOf_42
set_option maxHeartbeats 4000000 in
set_option maxRecDepth 100000 in
theorem c_X4_isHomeBy (l : Launch) (D : va_G) (cI : ClassId) (h : Nat) (b : Nat → Nat) (pm n k d rr hd sm : Nat) (kr kq ku s0 s1 s2 s3 s4 s5 hs : Int) (g0 g1 : Nat → Int) (κ ν : Nat → Nat) (g3 q5 q6 : Nat → Int) (π : Nat → Nat) (no L : Nat) (hn : 2 ≤ n ∧ n ≤ 12) (hk : k ≤ 6) (hg0 : ∀ j, j < k → g0 j = ((κ j : Nat) : Int)) (hκ : ∀ j, j < k → κ j ≤ 4) (hg1 : ∀ j, j < k → g1 j = ((ν j : Nat) : Int)) (hν : ∀ j, j < k → ν j ≤ 9) (hg3 : ∀ j, j < n → g3 j = ((π j : Nat) : Int)) (hπ : ∀ j, j < n → π j < n) (hπi : inj π n) (hk1 : 1 ≤ k) (hL : L ≤ 4) (hno0 : no < 1296) : zMi l yX4_isHomeBy cX4_isHomeBy 5 (some .boolean) ({ frames := 5, cells := 0, slots := 0, locals := 117 }) D cI [.ref h, .int (zI ((no : Nat) : Int)), .int (zI ((L : Nat) : Int))] [cM h b ((pm : Nat) : Int) ((n : Nat) : Int) ((k : Nat) : Int) ((d : Nat) : Int) ((rr : Nat) : Int) ((hd : Nat) : Int) ((sm : Nat) : Int) kr kq ku s0 s1 s2 s3 s4 s5 hs, cR cI (b 1) 6 g0, cR cI (b 2) 6 g1, cR cI (b 3) 12 g3, cR cI (b 5) 12 q5, cR cI (b 6) 12 q6] (fun (z : Int) (u : (Int) × (Nat → Int) × (Nat → Int)) => (z = (b01 (homB (mus n κ ν) (dg k L no) π L n = true))) ∧ (u.1 = ((dgs (dg k L no) L : Nat) : Int))) (fun (u : (Int) × (Nat → Int) × (Nat → Int)) => [cM h b ((pm : Nat) : Int) ((n : Nat) : Int) ((k : Nat) : Int) ((d : Nat) : Int) ((rr : Nat) : Int) ((hd : Nat) : Int) ((sm : Nat) : Int) kr kq ku s0 s1 s2 s3 u.1 s5 hs, cR cI (b 1) 6 g0, cR cI (b 2) 6 g1, cR cI (b 3) 12 g3, cR cI (b 5) 12 u.2.1, cR cI (b 6) 12 u.2.2]) := by
  intro sz
  refine zstart rfl (by decide) (Nat.le_of_ble_eq_true rfl) ?_
  intro p e s m below meth c ls K hnm hsz hP hD hS hl
  generalize hargs : ([.ref h, .int (zI ((no : Nat) : Int)), .int (zI ((L : Nat) : Int))] : List Value).toArray = args at K ⊢
  generalize hQf : MQ below _ args s _ _ _ = Qf
  have K : zK p s m args meth c cX4_isHomeBy 5 RX4 (some .boolean) D cI := K
  obtain ⟨hx, hb, hml, hown, hts, hE, -, -⟩ := id K
  have hA := zhA (ws0 := [cM h b ((pm : Nat) : Int) ((n : Nat) : Int) ((k : Nat) : Int) ((d : Nat) : Int) ((rr : Nat) : Int) ((hd : Nat) : Int) ((sm : Nat) : Int) kr kq ku s0 s1 s2 s3 s4 s5 hs, cR cI (b 1) 6 g0, cR cI (b 2) 6 g1, cR cI (b 3) 12 g3, cR cI (b 5) 12 q5, cR cI (b 6) 12 q6]) hsz
  have hl : lv_has ls 5 [(0, .ref h), (1, .int (zI ((no : Nat) : Int))), (2, .int (zI ((L : Nat) : Int)))] := hl
  have hμ := mus_lt (k := k) hn.2 hκ hν
  have hμi := mus_inj (k := k) hn.2 hκ hν
  have hρ : ∀ j, j < n → rdc (mus n κ ν) k j < n := fun j hj => rdc_lt hμ (Nat.le_refl k) hj
  have hρi : inj (rdc (mus n κ ν) k) n := rdc_inj hμ hμi (Nat.le_refl k)
  have hdk : ∀ a, dg k L no a < k := fun a => dg_lt (by omega)
  refine lv_aload_n hx hb dX4_isHomeBy_0 rfl (lv_at hl 0 rfl) ?_
  refine va_get (D := D) (ci := 4) (v := .ref (b 3)) (C := RX4) (T := TX4) (N := 32) hx hb hts inT_X4 hown hE.1 hP 0 rfl rfl 8 (by decide) (hts _ qf_X4_19) (fun _ h9 => h9) rfl dX4_isHomeBy_1 ?_
  refine lv_aload_n hx hb dX4_isHomeBy_4 rfl (lv_at hl 0 rfl) ?_
  refine va_get (D := D) (ci := 4) (v := .ref (b 5)) (C := RX4) (T := TX4) (N := 32) hx hb hts inT_X4 hown hE.1 hP 0 rfl rfl 14 (by decide) (hts _ qf_X4_25) (fun _ h9 => h9) rfl dX4_isHomeBy_5 ?_
  refine zcall_v (wc := [cR cI (b 3) 12 g3, cR cI (b 5) 12 q5]) (wr := [cM h b ((pm : Nat) : Int) ((n : Nat) : Int) ((k : Nat) : Int) ((d : Nat) : Int) ((rr : Nat) : Int) ((hd : Nat) : Int) ((sm : Nat) : Int) kr kq ku s0 s1 s2 s3 s4 s5 hs, cR cI (b 1) 6 g0, cR cI (b 2) 6 g1, cR cI (b 6) 12 q6]) (rest := []) hE hP hD hS hA [3, 4] [0, 1, 2, 5] [0, 1, 2, 4, 5, 3] rfl rfl (by decide) (by decide) (by decide) (fun (u : Unit) => [cM h b ((pm : Nat) : Int) ((n : Nat) : Int) ((k : Nat) : Int) ((d : Nat) : Int) ((rr : Nat) : Int) ((hd : Nat) : Int) ((sm : Nat) : Int) kr kq ku s0 s1 s2 s3 s4 s5 hs, cR cI (b 1) 6 g0, cR cI (b 2) 6 g1, cR cI (b 3) 12 g3, cR cI (b 5) 12 (zcp g3 q5 12), cR cI (b 6) 12 q6]) (fun u => rfl) (fun hPc hDc => zrunS (As := [.ref (b 3), .ref (b 5)]) (rest := []) K k_X4_copy qm_X4_186 ⟨⟨rfl, rfl⟩, ⟨Nat.le_of_ble_eq_true rfl, Nat.le_of_ble_eq_true rfl⟩⟩ hPc hDc (c_X4_copy l D cI (b 3) (b 5) 12 12 g3 q5 (by first | assumption | omega) (by first | assumption | omega) _) rfl hl.1 rfl (Nat.le_of_ble_eq_true rfl) dX4_isHomeBy_8 ⟨Nat.zero_le _, Nat.zero_le _⟩) (by decide) (fun u H locs hpost hP hD hS => ?_)
  have hP : va_P D cls [cM h b ((pm : Nat) : Int) ((n : Nat) : Int) ((k : Nat) : Int) ((d : Nat) : Int) ((rr : Nat) : Int) ((hd : Nat) : Int) ((sm : Nat) : Int) kr kq ku s0 s1 s2 s3 s4 s5 hs, cR cI (b 1) 6 g0, cR cI (b 2) 6 g1, cR cI (b 3) 12 g3, cR cI (b 5) 12 (zcp g3 q5 12), cR cI (b 6) 12 q6] H := hP
  have hD : va_D (va_A [cM h b ((pm : Nat) : Int) ((n : Nat) : Int) ((k : Nat) : Int) ((d : Nat) : Int) ((rr : Nat) : Int) ((hd : Nat) : Int) ((sm : Nat) : Int) kr kq ku s0 s1 s2 s3 s4 s5 hs, cR cI (b 1) 6 g0, cR cI (b 2) 6 g1, cR cI (b 3) 12 g3, cR cI (b 5) 12 q5, cR cI (b 6) 12 q6] sz) [cM h b ((pm : Nat) : Int) ((n : Nat) : Int) ((k : Nat) : Int) ((d : Nat) : Int) ((rr : Nat) : Int) ((hd : Nat) : Int) ((sm : Nat) : Int) kr kq ku s0 s1 s2 s3 s4 s5 hs, cR cI (b 1) 6 g0, cR cI (b 2) 6 g1, cR cI (b 3) 12 g3, cR cI (b 5) 12 (zcp g3 q5 12), cR cI (b 6) 12 q6] := hD
  refine lv_aload_n hx hb dX4_isHomeBy_11 rfl (lv_at hl 0 rfl) ?_
  refine lv_iconst (v := zI 0) hx hb dX4_isHomeBy_12 rfl ?_
  refine va_put (D := D) (ci := 4) (v := .int (zI 0)) (ty := .int) (C := RX4) (T := TX4) (N := 32) hx hb hts inT_X4 tyX4 tyX4_ok nmX4 hown hE.1 hP hD hS 0 rfl rfl 18 (by decide) (hts _ qf_X4_209) (fun _ h9 => h9) rfl (by decide +kernel) rfl rfl (Nat.le_of_ble_eq_true rfl) dX4_isHomeBy_13 (fun H locs hP hD hS => ?_)
  have hP : va_P D cls [cM h b ((pm : Nat) : Int) ((n : Nat) : Int) ((k : Nat) : Int) ((d : Nat) : Int) ((rr : Nat) : Int) ((hd : Nat) : Int) ((sm : Nat) : Int) kr kq ku s0 s1 s2 s3 0 s5 hs, cR cI (b 1) 6 g0, cR cI (b 2) 6 g1, cR cI (b 3) 12 g3, cR cI (b 5) 12 (zcp g3 q5 12), cR cI (b 6) 12 q6] H := hP
  have hD : va_D (va_A [cM h b ((pm : Nat) : Int) ((n : Nat) : Int) ((k : Nat) : Int) ((d : Nat) : Int) ((rr : Nat) : Int) ((hd : Nat) : Int) ((sm : Nat) : Int) kr kq ku s0 s1 s2 s3 s4 s5 hs, cR cI (b 1) 6 g0, cR cI (b 2) 6 g1, cR cI (b 3) 12 g3, cR cI (b 5) 12 q5, cR cI (b 6) 12 q6] sz) [cM h b ((pm : Nat) : Int) ((n : Nat) : Int) ((k : Nat) : Int) ((d : Nat) : Int) ((rr : Nat) : Int) ((hd : Nat) : Int) ((sm : Nat) : Int) kr kq ku s0 s1 s2 s3 0 s5 hs, cR cI (b 1) 6 g0, cR cI (b 2) 6 g1, cR cI (b 3) 12 g3, cR cI (b 5) 12 (zcp g3 q5 12), cR cI (b 6) 12 q6] := hD
  refine lv_iload_n hx hb dX4_isHomeBy_16 rfl (lv_at hl 2 rfl) ?_
  refine lv_iconst (v := zI 1) hx hb dX4_isHomeBy_17 rfl ?_
  refine z_isub hx hb (((L : Nat) : Int) - 1 - ((0 : Nat) : Int)) (by omega) dX4_isHomeBy_18 ?_
  refine lv_istore_n (lv' := [(3, .int (zI (((L : Nat) : Int) - 1 - ((0 : Nat) : Int)))), (0, .ref h), (1, .int (zI ((no : Nat) : Int))), (2, .int (zI ((L : Nat) : Int)))]) hx hb dX4_isHomeBy_19 rfl hl (by decide) rfl (fun ls hl => ?_)
  have cut_20 : ∀ (N_20 : Nat), ∀ (i y : Nat) (r5 r6 : Nat → Int), L - i < N_20 → (i ≤ L) → (y = dgs (dg k L no) i) → (∀ j, j < n → r5 j = ((pa (pth (mus n κ ν) (dg k L no) i) n π j : Nat) : Int)) → ∀ (H : Heap) (locs : List Loc) (ls : Array Slot), va_P D cls [cM h b ((pm : Nat) : Int) ((n : Nat) : Int) ((k : Nat) : Int) ((d : Nat) : Int) ((rr : Nat) : Int) ((hd : Nat) : Int) ((sm : Nat) : Int) kr kq ku s0 s1 s2 s3 ((y : Nat) : Int) s5 hs, cR cI (b 1) 6 g0, cR cI (b 2) 6 g1, cR cI (b 3) 12 g3, cR cI (b 5) 12 r5, cR cI (b 6) 12 r6] H → va_D (va_A [cM h b ((pm : Nat) : Int) ((n : Nat) : Int) ((k : Nat) : Int) ((d : Nat) : Int) ((rr : Nat) : Int) ((hd : Nat) : Int) ((sm : Nat) : Int) kr kq ku s0 s1 s2 s3 s4 s5 hs, cR cI (b 1) 6 g0, cR cI (b 2) 6 g1, cR cI (b 3) 12 g3, cR cI (b 5) 12 q5, cR cI (b 6) 12 q6] sz) [cM h b ((pm : Nat) : Int) ((n : Nat) : Int) ((k : Nat) : Int) ((d : Nat) : Int) ((rr : Nat) : Int) ((hd : Nat) : Int) ((sm : Nat) : Int) kr kq ku s0 s1 s2 s3 ((y : Nat) : Int) s5 hs, cR cI (b 1) 6 g0, cR cI (b 2) 6 g1, cR cI (b 3) 12 g3, cR cI (b 5) 12 r5, cR cI (b 6) 12 r6] → va_S (va_A [cM h b ((pm : Nat) : Int) ((n : Nat) : Int) ((k : Nat) : Int) ((d : Nat) : Int) ((rr : Nat) : Int) ((hd : Nat) : Int) ((sm : Nat) : Int) kr kq ku s0 s1 s2 s3 s4 s5 hs, cR cI (b 1) 6 g0, cR cI (b 2) 6 g1, cR cI (b 3) 12 g3, cR cI (b 5) 12 q5, cR cI (b 6) 12 q6] sz) s.heap H locs → lv_has ls 5 [(0, .ref h), (1, .int (zI ((no : Nat) : Int))), (2, .int (zI ((L : Nat) : Int))), (3, .int (zI (((L : Nat) : Int) - 1 - ((i : Nat) : Int))))] → W p l e ({ frames := 5, cells := 0, slots := 0, locals := 117 }) s m args below meth c H locs 0 0 Qf (F0 m 20 ls []) := by
    intro N_20
    induction N_20 with
    | zero => intro i y r5 r6 hm_20; exact absurd hm_20 (Nat.not_lt_zero _)
    | succ N_20 ih_20 =>
      intro i y r5 r6 hm_20 hi hy hr5 H locs ls hP hD hS hl
      refine lv_iload_n hx hb dX4_isHomeBy_20 rfl (lv_at hl 3 rfl) ?_
      refine z_if_lt (tgt := 69) hx hb (by omega) dX4_isHomeBy_21 (by decide) (fun c_21 => ?_) (fun c_21 => ?_)
      · have hiL : i = L := by omega
        have hpl : ∀ j, j < n → pth (mus n κ ν) (dg k L no) i j < n := fun j hj => pth_lt hμ (fun a _ => hdk a) hj
        have hpi : inj (pth (mus n κ ν) (dg k L no) i) n := pth_inj hμ hμi (fun a _ => hdk a)
        have hhb2 : fb_ct (fun q => decide (pa (pth (mus n κ ν) (dg k L no) i) n π q = q)) n = n ↔ homB (mus n κ ν) (dg k L no) π L n = true := by
          have h9 := homB_ct (π := π) hpl hpi
          rw [show homB (mus n κ ν) (dg k L no) π i n = homB (mus n κ ν) (dg k L no) π L n from by rw [hiL]] at h9
          exact h9
        have hfl := fb_ct_le (fun q => decide (pa (pth (mus n κ ν) (dg k L no) i) n π q = q)) n
        refine lv_aload_n hx hb dX4_isHomeBy_69 rfl (lv_at hl 0 rfl) ?_
        refine lv_aload_n hx hb dX4_isHomeBy_70 rfl (lv_at hl 0 rfl) ?_
        refine va_get (D := D) (ci := 4) (v := .ref (b 5)) (C := RX4) (T := TX4) (N := 32) hx hb hts inT_X4 hown hE.1 hP 0 rfl rfl 14 (by decide) (hts _ qf_X4_25) (fun _ h9 => h9) rfl dX4_isHomeBy_71 ?_
        refine zcall_i (wc := [cM h b ((pm : Nat) : Int) ((n : Nat) : Int) ((k : Nat) : Int) ((d : Nat) : Int) ((rr : Nat) : Int) ((hd : Nat) : Int) ((sm : Nat) : Int) kr kq ku s0 s1 s2 s3 ((y : Nat) : Int) s5 hs, cR cI (b 5) 12 r5]) (wr := [cR cI (b 1) 6 g0, cR cI (b 2) 6 g1, cR cI (b 3) 12 g3, cR cI (b 6) 12 r6]) (rest := []) hE hP hD hS hA [0, 4] [1, 2, 3, 5] [4, 0, 1, 2, 5, 3] rfl rfl (by decide) (by decide) (by decide) (fun (u : Unit) => [cM h b ((pm : Nat) : Int) ((n : Nat) : Int) ((k : Nat) : Int) ((d : Nat) : Int) ((rr : Nat) : Int) ((hd : Nat) : Int) ((sm : Nat) : Int) kr kq ku s0 s1 s2 s3 ((y : Nat) : Int) s5 hs, cR cI (b 1) 6 g0, cR cI (b 2) 6 g1, cR cI (b 3) 12 g3, cR cI (b 5) 12 r5, cR cI (b 6) 12 r6]) (fun u => rfl) (fun hPc hDc => zrunV (As := [.ref (b 5)]) (rest := []) (q0 := 0) (ci := 4) K k_X4_homely qm_X4_194 ⟨⟨rfl, rfl⟩, ⟨Nat.le_of_ble_eq_true rfl, Nat.le_of_ble_eq_true rfl⟩⟩ rfl rfl hPc hDc (c_X4_homely l D cI h b pm n k d rr hd sm kr kq ku s0 s1 s2 s3 ((y : Nat) : Int) s5 hs (b 5) r5 (pa (pth (mus n κ ν) (dg k L no) i) n π) (by first | assumption | omega) hr5 (pa_lt hpl hpi hπ) _) rfl hl.1 rfl (Nat.le_of_ble_eq_true rfl) dX4_isHomeBy_74 ⟨Nat.zero_le _, Nat.zero_le _⟩) (by decide) (fun z u H locs hpost hP hD hS => ?_)
        subst hpost
        have hP : va_P D cls [cM h b ((pm : Nat) : Int) ((n : Nat) : Int) ((k : Nat) : Int) ((d : Nat) : Int) ((rr : Nat) : Int) ((hd : Nat) : Int) ((sm : Nat) : Int) kr kq ku s0 s1 s2 s3 ((y : Nat) : Int) s5 hs, cR cI (b 1) 6 g0, cR cI (b 2) 6 g1, cR cI (b 3) 12 g3, cR cI (b 5) 12 r5, cR cI (b 6) 12 r6] H := hP
        have hD : va_D (va_A [cM h b ((pm : Nat) : Int) ((n : Nat) : Int) ((k : Nat) : Int) ((d : Nat) : Int) ((rr : Nat) : Int) ((hd : Nat) : Int) ((sm : Nat) : Int) kr kq ku s0 s1 s2 s3 s4 s5 hs, cR cI (b 1) 6 g0, cR cI (b 2) 6 g1, cR cI (b 3) 12 g3, cR cI (b 5) 12 q5, cR cI (b 6) 12 q6] sz) [cM h b ((pm : Nat) : Int) ((n : Nat) : Int) ((k : Nat) : Int) ((d : Nat) : Int) ((rr : Nat) : Int) ((hd : Nat) : Int) ((sm : Nat) : Int) kr kq ku s0 s1 s2 s3 ((y : Nat) : Int) s5 hs, cR cI (b 1) 6 g0, cR cI (b 2) 6 g1, cR cI (b 3) 12 g3, cR cI (b 5) 12 r5, cR cI (b 6) 12 r6] := hD
        refine W.eq (g2 := F0 m 77 ls [.int (zI (((fb_ct (fun j => decide ((pa (pth (mus n κ ν) (dg k L no) i) n π) j = j)) n) : Nat) : Int))]) rfl ?_
        refine lv_aload_n hx hb dX4_isHomeBy_77 rfl (lv_at hl 0 rfl) ?_
        refine va_get (D := D) (ci := 4) (v := .int (zI ((n : Nat) : Int))) (C := RX4) (T := TX4) (N := 32) hx hb hts inT_X4 hown hE.1 hP 0 rfl rfl 2 (by decide) (hts _ qf_X4_86) (fun _ h9 => h9) rfl dX4_isHomeBy_78 ?_
        refine z_icmp_ne (tgt := 88) hx hb (by omega) dX4_isHomeBy_81 (by decide) (fun c_81 => ?_) (fun c_81 => ?_)
        · refine lv_iconst (v := zI 0) hx hb dX4_isHomeBy_88 rfl ?_
          rw [← hQf]
          exact z_bret K hS (((y : Nat) : Int), r5, r6) ⟨(by first | exact (b01_t (hhb2.mp (by omega))).symm | exact (b01_f (fun h9 => by have h8 := hhb2.mpr h9; omega)).symm), (by (try dsimp only); rw [hy, hiL])⟩ (by omega) hP hD dX4_isHomeBy_89
        · refine lv_iconst (v := zI 1) hx hb dX4_isHomeBy_84 rfl ?_
          refine lv_goto (tgt := 89) hx hb dX4_isHomeBy_85 (by decide) ?_
          rw [← hQf]
          exact z_bret K hS (((y : Nat) : Int), r5, r6) ⟨(by first | exact (b01_t (hhb2.mp (by omega))).symm | exact (b01_f (fun h9 => by have h8 := hhb2.mpr h9; omega)).symm), (by (try dsimp only); rw [hy, hiL])⟩ (by omega) hP hD dX4_isHomeBy_89
      · refine lv_iload_n hx hb dX4_isHomeBy_24 rfl (lv_at hl 1 rfl) ?_
        refine lv_aload_n hx hb dX4_isHomeBy_25 rfl (lv_at hl 0 rfl) ?_
        refine va_get (D := D) (ci := 4) (v := .int (zI ((k : Nat) : Int))) (C := RX4) (T := TX4) (N := 32) hx hb hts inT_X4 hown hE.1 hP 0 rfl rfl 3 (by decide) (hts _ qf_X4_89) (fun _ h9 => h9) rfl dX4_isHomeBy_26 ?_
        refine lv_iload_n hx hb dX4_isHomeBy_29 rfl (lv_at hl 3 rfl) ?_
        refine W.eq (g2 := F0 m 30 ls [.int (zI (((L - 1 - i) : Nat) : Int)), .int (zI ((k : Nat) : Int)), .int (zI ((no : Nat) : Int))]) (by rw [show (((L : Nat) : Int) - 1 - ((i : Nat) : Int) : Int) = (((L - 1 - i) : Nat) : Int) from by omega]) ?_
        refine zcall_i (wc := []) (wr := [cM h b ((pm : Nat) : Int) ((n : Nat) : Int) ((k : Nat) : Int) ((d : Nat) : Int) ((rr : Nat) : Int) ((hd : Nat) : Int) ((sm : Nat) : Int) kr kq ku s0 s1 s2 s3 ((y : Nat) : Int) s5 hs, cR cI (b 1) 6 g0, cR cI (b 2) 6 g1, cR cI (b 3) 12 g3, cR cI (b 5) 12 r5, cR cI (b 6) 12 r6]) (rest := [.int (zI ((no : Nat) : Int))]) hE hP hD hS hA [] [0, 1, 2, 3, 4, 5] [0, 1, 2, 3, 4, 5] rfl rfl (by decide) (by decide) (by decide) (fun (u : Unit) => [cM h b ((pm : Nat) : Int) ((n : Nat) : Int) ((k : Nat) : Int) ((d : Nat) : Int) ((rr : Nat) : Int) ((hd : Nat) : Int) ((sm : Nat) : Int) kr kq ku s0 s1 s2 s3 ((y : Nat) : Int) s5 hs, cR cI (b 1) 6 g0, cR cI (b 2) 6 g1, cR cI (b 3) 12 g3, cR cI (b 5) 12 r5, cR cI (b 6) 12 r6]) (fun u => rfl) (fun hPc hDc => zrunS (As := [.int (zI ((k : Nat) : Int)), .int (zI (((L - 1 - i) : Nat) : Int))]) (rest := [.int (zI ((no : Nat) : Int))]) K k_X4_power qm_X4_212 ⟨⟨rfl, rfl⟩, ⟨Nat.le_of_ble_eq_true rfl, Nat.le_of_ble_eq_true rfl⟩⟩ hPc hDc (c_X4_power l D cI k (L - 1 - i) (by first | assumption | omega) _) rfl hl.1 rfl (Nat.le_of_ble_eq_true rfl) dX4_isHomeBy_30 ⟨Nat.zero_le _, Nat.zero_le _⟩) (by decide) (fun z u H locs hpost hP hD hS => ?_)
        subst hpost
        have hP : va_P D cls [cM h b ((pm : Nat) : Int) ((n : Nat) : Int) ((k : Nat) : Int) ((d : Nat) : Int) ((rr : Nat) : Int) ((hd : Nat) : Int) ((sm : Nat) : Int) kr kq ku s0 s1 s2 s3 ((y : Nat) : Int) s5 hs, cR cI (b 1) 6 g0, cR cI (b 2) 6 g1, cR cI (b 3) 12 g3, cR cI (b 5) 12 r5, cR cI (b 6) 12 r6] H := hP
        have hD : va_D (va_A [cM h b ((pm : Nat) : Int) ((n : Nat) : Int) ((k : Nat) : Int) ((d : Nat) : Int) ((rr : Nat) : Int) ((hd : Nat) : Int) ((sm : Nat) : Int) kr kq ku s0 s1 s2 s3 s4 s5 hs, cR cI (b 1) 6 g0, cR cI (b 2) 6 g1, cR cI (b 3) 12 g3, cR cI (b 5) 12 q5, cR cI (b 6) 12 q6] sz) [cM h b ((pm : Nat) : Int) ((n : Nat) : Int) ((k : Nat) : Int) ((d : Nat) : Int) ((rr : Nat) : Int) ((hd : Nat) : Int) ((sm : Nat) : Int) kr kq ku s0 s1 s2 s3 ((y : Nat) : Int) s5 hs, cR cI (b 1) 6 g0, cR cI (b 2) 6 g1, cR cI (b 3) 12 g3, cR cI (b 5) 12 r5, cR cI (b 6) 12 r6] := hD
        refine W.eq (g2 := F0 m 33 ls [.int (zI (((k ^ (L - 1 - i)) : Nat) : Int)), .int (zI ((no : Nat) : Int))]) rfl ?_
        refine z_idiv hx hb (((no / (k ^ (L - 1 - i))) : Nat) : Int) (by have h9 := pw_le hk (show L - 1 - i ≤ 4 by omega); have h8 : 0 < k ^ (L - 1 - i) := Nat.pow_pos (by omega); omega) rfl dX4_isHomeBy_33 ?_
        refine lv_aload_n hx hb dX4_isHomeBy_34 rfl (lv_at hl 0 rfl) ?_
        refine va_get (D := D) (ci := 4) (v := .int (zI ((k : Nat) : Int))) (C := RX4) (T := TX4) (N := 32) hx hb hts inT_X4 hown hE.1 hP 0 rfl rfl 3 (by decide) (hts _ qf_X4_89) (fun _ h9 => h9) rfl dX4_isHomeBy_35 ?_
        refine z_irem hx hb ((dg k L no i : Nat) : Int) (by have h9 := Nat.div_le_self no (k ^ (L - 1 - i)); have h8 : (0 : Int) ≤ ((no / k ^ (L - 1 - i) : Nat) : Int) := Int.natCast_nonneg _; omega) (by rfl) dX4_isHomeBy_38 ?_
        have hdi := hdk i
        refine lv_istore (lv' := [(4, .int (zI ((dg k L no i : Nat) : Int))), (0, .ref h), (1, .int (zI ((no : Nat) : Int))), (2, .int (zI ((L : Nat) : Int))), (3, .int (zI (((L : Nat) : Int) - 1 - ((i : Nat) : Int))))]) hx hb dX4_isHomeBy_39 hl (by decide) rfl (fun ls hl => ?_)
        refine lv_aload_n hx hb dX4_isHomeBy_41 rfl (lv_at hl 1 rfl) ?_
        refine lv_bipush (v := zI 10) hx hb dX4_isHomeBy_42 (by decide) ?_
        refine lv_aload_n hx hb dX4_isHomeBy_44 rfl (lv_at hl 1 rfl) ?_
        refine va_get (D := D) (ci := 4) (v := .int (zI ((y : Nat) : Int))) (C := RX4) (T := TX4) (N := 32) hx hb hts inT_X4 hown hE.1 hP 0 rfl rfl 18 (by decide) (hts _ qf_X4_209) (fun _ h9 => h9) rfl dX4_isHomeBy_45 ?_
        refine z_imul hx hb (((10 * y) : Nat) : Int) (by first | omega | exact (Int.natCast_mul _ _).symm) dX4_isHomeBy_48 ?_
        refine lv_iload hx hb dX4_isHomeBy_49 (lv_at hl 0 rfl) ?_
        refine z_iadd hx hb ((((10 * y) + (dg k L no i)) : Nat) : Int) (by omega) dX4_isHomeBy_51 ?_
        refine lv_iconst (v := zI 1) hx hb dX4_isHomeBy_52 rfl ?_
        refine z_iadd hx hb (((((10 * y) + (dg k L no i)) + 1) : Nat) : Int) (by omega) dX4_isHomeBy_53 ?_
        refine va_put (D := D) (ci := 4) (v := .int (zI (((((10 * y) + (dg k L no i)) + 1) : Nat) : Int))) (ty := .int) (C := RX4) (T := TX4) (N := 32) hx hb hts inT_X4 tyX4 tyX4_ok nmX4 hown hE.1 hP hD hS 0 rfl rfl 18 (by decide) (hts _ qf_X4_209) (fun _ h9 => h9) rfl (by decide +kernel) rfl rfl (Nat.le_of_ble_eq_true rfl) dX4_isHomeBy_54 (fun H locs hP hD hS => ?_)
        have hP : va_P D cls [cM h b ((pm : Nat) : Int) ((n : Nat) : Int) ((k : Nat) : Int) ((d : Nat) : Int) ((rr : Nat) : Int) ((hd : Nat) : Int) ((sm : Nat) : Int) kr kq ku s0 s1 s2 s3 (((((10 * y) + (dg k L no i)) + 1) : Nat) : Int) s5 hs, cR cI (b 1) 6 g0, cR cI (b 2) 6 g1, cR cI (b 3) 12 g3, cR cI (b 5) 12 r5, cR cI (b 6) 12 r6] H := hP
        have hD : va_D (va_A [cM h b ((pm : Nat) : Int) ((n : Nat) : Int) ((k : Nat) : Int) ((d : Nat) : Int) ((rr : Nat) : Int) ((hd : Nat) : Int) ((sm : Nat) : Int) kr kq ku s0 s1 s2 s3 s4 s5 hs, cR cI (b 1) 6 g0, cR cI (b 2) 6 g1, cR cI (b 3) 12 g3, cR cI (b 5) 12 q5, cR cI (b 6) 12 q6] sz) [cM h b ((pm : Nat) : Int) ((n : Nat) : Int) ((k : Nat) : Int) ((d : Nat) : Int) ((rr : Nat) : Int) ((hd : Nat) : Int) ((sm : Nat) : Int) kr kq ku s0 s1 s2 s3 (((((10 * y) + (dg k L no i)) + 1) : Nat) : Int) s5 hs, cR cI (b 1) 6 g0, cR cI (b 2) 6 g1, cR cI (b 3) 12 g3, cR cI (b 5) 12 r5, cR cI (b 6) 12 r6] := hD
        refine lv_aload_n hx hb dX4_isHomeBy_57 rfl (lv_at hl 1 rfl) ?_
        refine lv_iload hx hb dX4_isHomeBy_58 (lv_at hl 0 rfl) ?_
        refine zcall_v (wc := [cM h b ((pm : Nat) : Int) ((n : Nat) : Int) ((k : Nat) : Int) ((d : Nat) : Int) ((rr : Nat) : Int) ((hd : Nat) : Int) ((sm : Nat) : Int) kr kq ku s0 s1 s2 s3 (((((10 * y) + (dg k L no i)) + 1) : Nat) : Int) s5 hs, cR cI (b 1) 6 g0, cR cI (b 2) 6 g1, cR cI (b 5) 12 r5, cR cI (b 6) 12 r6]) (wr := [cR cI (b 3) 12 g3]) (rest := []) hE hP hD hS hA [0, 1, 2, 4, 5] [3] [1, 2, 3, 0, 4, 5] rfl rfl (by decide) (by decide) (by decide) (fun (u : (Nat → Int) × (Nat → Int)) => [cM h b ((pm : Nat) : Int) ((n : Nat) : Int) ((k : Nat) : Int) ((d : Nat) : Int) ((rr : Nat) : Int) ((hd : Nat) : Int) ((sm : Nat) : Int) kr kq ku s0 s1 s2 s3 (((((10 * y) + (dg k L no i)) + 1) : Nat) : Int) s5 hs, cR cI (b 1) 6 g0, cR cI (b 2) 6 g1, cR cI (b 3) 12 g3, cR cI (b 5) 12 u.1, cR cI (b 6) 12 u.2]) (fun u => rfl) (fun hPc hDc => zrunV (As := [.int (zI ((dg k L no i : Nat) : Int))]) (rest := []) (q0 := 0) (ci := 4) K k_X4_doThen qm_X4_190 ⟨⟨rfl, rfl⟩, ⟨Nat.le_of_ble_eq_true rfl, Nat.le_of_ble_eq_true rfl⟩⟩ rfl rfl hPc hDc (c_X4_doThen l D cI h b pm n k d rr hd sm kr kq ku s0 s1 s2 s3 (((((10 * y) + (dg k L no i)) + 1) : Nat) : Int) s5 hs g0 g1 κ ν r5 r6 (pa (pth (mus n κ ν) (dg k L no) i) n π) (dg k L no i) (by first | assumption | omega) (by first | assumption | omega) (by first | assumption | omega) (by first | assumption | omega) (by first | assumption | omega) (by first | assumption | omega) (by first | assumption | omega) hr5 _) rfl hl.1 rfl (Nat.le_of_ble_eq_true rfl) dX4_isHomeBy_60 ⟨Nat.zero_le _, Nat.zero_le _⟩) (by decide) (fun u H locs hpost hP hD hS => ?_)
        obtain ⟨o_1, o_2⟩ := u
        have ho5_60 := hpost
        have ho5_60 : ∀ j, j < n → o_1 j = ((pa (mus n κ ν (dg k L no i)) n (pa (pth (mus n κ ν) (dg k L no) i) n π) j : Nat) : Int) := ho5_60
        have hP : va_P D cls [cM h b ((pm : Nat) : Int) ((n : Nat) : Int) ((k : Nat) : Int) ((d : Nat) : Int) ((rr : Nat) : Int) ((hd : Nat) : Int) ((sm : Nat) : Int) kr kq ku s0 s1 s2 s3 (((((10 * y) + (dg k L no i)) + 1) : Nat) : Int) s5 hs, cR cI (b 1) 6 g0, cR cI (b 2) 6 g1, cR cI (b 3) 12 g3, cR cI (b 5) 12 o_1, cR cI (b 6) 12 o_2] H := hP
        have hD : va_D (va_A [cM h b ((pm : Nat) : Int) ((n : Nat) : Int) ((k : Nat) : Int) ((d : Nat) : Int) ((rr : Nat) : Int) ((hd : Nat) : Int) ((sm : Nat) : Int) kr kq ku s0 s1 s2 s3 s4 s5 hs, cR cI (b 1) 6 g0, cR cI (b 2) 6 g1, cR cI (b 3) 12 g3, cR cI (b 5) 12 q5, cR cI (b 6) 12 q6] sz) [cM h b ((pm : Nat) : Int) ((n : Nat) : Int) ((k : Nat) : Int) ((d : Nat) : Int) ((rr : Nat) : Int) ((hd : Nat) : Int) ((sm : Nat) : Int) kr kq ku s0 s1 s2 s3 (((((10 * y) + (dg k L no i)) + 1) : Nat) : Int) s5 hs, cR cI (b 1) 6 g0, cR cI (b 2) 6 g1, cR cI (b 3) 12 g3, cR cI (b 5) 12 o_1, cR cI (b 6) 12 o_2] := hD
        refine z_iinc (k := 4) (lv' := [(3, .int (zI (((L : Nat) : Int) - 1 - ((i + 1 : Nat) : Int)))), (4, .int (zI ((dg k L no i : Nat) : Int))), (0, .ref h), (1, .int (zI ((no : Nat) : Int))), (2, .int (zI ((L : Nat) : Int)))]) hx hb (((L : Nat) : Int) - 1 - ((i + 1 : Nat) : Int)) (by omega) dX4_isHomeBy_63 hl rfl (by decide) rfl (fun ls hl => ?_)
        refine lv_goto (tgt := 20) hx hb dX4_isHomeBy_66 (by decide) ?_
        exact ih_20 (i + 1) (((10 * y) + (dg k L no i)) + 1) o_1 o_2 (by omega) (by omega) (by rw [hy]; rfl) (by intro j hj; rw [ho5_60 j hj, pa_comp (φ := pth (mus n κ ν) (dg k L no) i) (ψ := mus n κ ν (dg k L no i)) (fun a ha => pth_lt hμ (fun a _ => hdk a) ha) (pth_inj hμ hμi (fun a _ => hdk a)) (fun a ha => hμ _ a (hdk i) ha) (hμi _ (hdk i)) j hj]; rfl) _ _ _ hP hD hS (lv_sub hl [2, 3, 4, 0] rfl)
  exact cut_20 (L - 0 + 1) 0 0 (zcp g3 q5 12) q6 (Nat.lt_succ_self _) (by omega) (by rfl) (by intro j hj; rw [show pa (pth (mus n κ ν) (dg k L no) 0) n π j = π j from pa_0 (fun a _ => rfl) j hj]; exact (zcp_lt (by omega)).trans (hg3 j hj)) _ _ _ hP hD hS (lv_sub hl [1, 2, 3, 0] rfl)
set_option maxHeartbeats 4000000 in
set_option maxRecDepth 100000 in
theorem c_X4_homeOf (l : Launch) (D : va_G) (cI : ClassId) (h : Nat) (b : Nat → Nat) (pm n k d rr hd sm : Nat) (kr kq ku s0 s1 s2 s3 s4 s5 hs : Int) (g0 g1 : Nat → Int) (κ ν : Nat → Nat) (g3 q5 q6 : Nat → Int) (π : Nat → Nat) (w0 : Nat) (hn : 2 ≤ n ∧ n ≤ 12) (hk : k ≤ 6) (hg0 : ∀ j, j < k → g0 j = ((κ j : Nat) : Int)) (hκ : ∀ j, j < k → κ j ≤ 4) (hg1 : ∀ j, j < k → g1 j = ((ν j : Nat) : Int)) (hν : ∀ j, j < k → ν j ≤ 9) (hg3 : ∀ j, j < n → g3 j = ((π j : Nat) : Int)) (hπ : ∀ j, j < n → π j < n) (hπi : inj π n) (hk1 : 1 ≤ k) (hw0 : w0 < 2) : zMi l yX4_homeOf cX4_homeOf 4 (some .int) ({ frames := 6, cells := 0, slots := 0, locals := 141 }) D cI [.ref h, .int (zI ((w0 : Nat) : Int))] [cM h b ((pm : Nat) : Int) ((n : Nat) : Int) ((k : Nat) : Int) ((d : Nat) : Int) ((rr : Nat) : Int) ((hd : Nat) : Int) ((sm : Nat) : Int) kr kq ku s0 s1 s2 s3 s4 s5 hs, cR cI (b 1) 6 g0, cR cI (b 2) 6 g1, cR cI (b 3) 12 g3, cR cI (b 5) 12 q5, cR cI (b 6) 12 q6] (fun (z : Int) (u : (Int) × (Nat → Int) × (Nat → Int)) => z = (fHm (mus n κ ν) n k π w0 5 0)) (fun (u : (Int) × (Nat → Int) × (Nat → Int)) => [cM h b ((pm : Nat) : Int) ((n : Nat) : Int) ((k : Nat) : Int) ((d : Nat) : Int) ((rr : Nat) : Int) ((hd : Nat) : Int) ((sm : Nat) : Int) kr kq ku s0 s1 s2 s3 u.1 s5 hs, cR cI (b 1) 6 g0, cR cI (b 2) 6 g1, cR cI (b 3) 12 g3, cR cI (b 5) 12 u.2.1, cR cI (b 6) 12 u.2.2]) := by
  intro sz
  refine zstart rfl (by decide) (Nat.le_of_ble_eq_true rfl) ?_
  intro p e s m below meth c ls K hnm hsz hP hD hS hl
  generalize hargs : ([.ref h, .int (zI ((w0 : Nat) : Int))] : List Value).toArray = args at K ⊢
  generalize hQf : MQ below _ args s _ _ _ = Qf
  have K : zK p s m args meth c cX4_homeOf 4 RX4 (some .int) D cI := K
  obtain ⟨hx, hb, hml, hown, hts, hE, -, -⟩ := id K
  have hA := zhA (ws0 := [cM h b ((pm : Nat) : Int) ((n : Nat) : Int) ((k : Nat) : Int) ((d : Nat) : Int) ((rr : Nat) : Int) ((hd : Nat) : Int) ((sm : Nat) : Int) kr kq ku s0 s1 s2 s3 s4 s5 hs, cR cI (b 1) 6 g0, cR cI (b 2) 6 g1, cR cI (b 3) 12 g3, cR cI (b 5) 12 q5, cR cI (b 6) 12 q6]) hsz
  have hl : lv_has ls 4 [(0, .ref h), (1, .int (zI ((w0 : Nat) : Int)))] := hl
  refine lv_iconst (v := zI 0) hx hb dX4_homeOf_0 rfl ?_
  refine lv_istore_n (lv' := [(2, .int (zI 0)), (0, .ref h), (1, .int (zI ((w0 : Nat) : Int)))]) hx hb dX4_homeOf_1 rfl hl (by decide) rfl (fun ls hl => ?_)
  have cut_2 : ∀ (N_2 : Nat), ∀ (L : Nat) (y4 : Int) (r5 r6 : Nat → Int), 5 - L < N_2 → (L ≤ 5) → (fHm (mus n κ ν) n k π w0 5 0 = fHm (mus n κ ν) n k π w0 (5 - L) L) → ∀ (H : Heap) (locs : List Loc) (ls : Array Slot), va_P D cls [cM h b ((pm : Nat) : Int) ((n : Nat) : Int) ((k : Nat) : Int) ((d : Nat) : Int) ((rr : Nat) : Int) ((hd : Nat) : Int) ((sm : Nat) : Int) kr kq ku s0 s1 s2 s3 y4 s5 hs, cR cI (b 1) 6 g0, cR cI (b 2) 6 g1, cR cI (b 3) 12 g3, cR cI (b 5) 12 r5, cR cI (b 6) 12 r6] H → va_D (va_A [cM h b ((pm : Nat) : Int) ((n : Nat) : Int) ((k : Nat) : Int) ((d : Nat) : Int) ((rr : Nat) : Int) ((hd : Nat) : Int) ((sm : Nat) : Int) kr kq ku s0 s1 s2 s3 s4 s5 hs, cR cI (b 1) 6 g0, cR cI (b 2) 6 g1, cR cI (b 3) 12 g3, cR cI (b 5) 12 q5, cR cI (b 6) 12 q6] sz) [cM h b ((pm : Nat) : Int) ((n : Nat) : Int) ((k : Nat) : Int) ((d : Nat) : Int) ((rr : Nat) : Int) ((hd : Nat) : Int) ((sm : Nat) : Int) kr kq ku s0 s1 s2 s3 y4 s5 hs, cR cI (b 1) 6 g0, cR cI (b 2) 6 g1, cR cI (b 3) 12 g3, cR cI (b 5) 12 r5, cR cI (b 6) 12 r6] → va_S (va_A [cM h b ((pm : Nat) : Int) ((n : Nat) : Int) ((k : Nat) : Int) ((d : Nat) : Int) ((rr : Nat) : Int) ((hd : Nat) : Int) ((sm : Nat) : Int) kr kq ku s0 s1 s2 s3 s4 s5 hs, cR cI (b 1) 6 g0, cR cI (b 2) 6 g1, cR cI (b 3) 12 g3, cR cI (b 5) 12 q5, cR cI (b 6) 12 q6] sz) s.heap H locs → lv_has ls 4 [(0, .ref h), (1, .int (zI ((w0 : Nat) : Int))), (2, .int (zI ((L : Nat) : Int)))] → W p l e ({ frames := 6, cells := 0, slots := 0, locals := 141 }) s m args below meth c H locs 0 0 Qf (F0 m 2 ls []) := by
    intro N_2
    induction N_2 with
    | zero => intro L y4 r5 r6 hm_2; exact absurd hm_2 (Nat.not_lt_zero _)
    | succ N_2 ih_2 =>
      intro L y4 r5 r6 hm_2 hL hh H locs ls hP hD hS hl
      refine lv_iload_n hx hb dX4_homeOf_2 rfl (lv_at hl 2 rfl) ?_
      refine lv_iconst (v := zI 5) hx hb dX4_homeOf_3 rfl ?_
      refine z_icmp_ge (tgt := 55) hx hb (by omega) dX4_homeOf_4 (by decide) (fun c_4 => ?_) (fun c_4 => ?_)
      · refine lv_iconst (v := zI (-1)) hx hb dX4_homeOf_55 rfl ?_
        rw [← hQf]
        exact z_iret K hS (y4, r5, r6) (by rw [hh, show 5 - L = 0 by omega]; rfl) hP hD dX4_homeOf_56
      · refine lv_iconst (v := zI 0) hx hb dX4_homeOf_7 rfl ?_
        refine lv_istore_n (lv' := [(3, .int (zI 0)), (0, .ref h), (1, .int (zI ((w0 : Nat) : Int))), (2, .int (zI ((L : Nat) : Int)))]) hx hb dX4_homeOf_8 rfl hl (by decide) rfl (fun ls hl => ?_)
        have cut_9 : ∀ (N_9 : Nat), ∀ (no : Nat) (y5 : Int) (r7 r8 : Nat → Int), k ^ L - no < N_9 → (no ≤ k ^ L) → (∀ j, j < no → homB (mus n κ ν) (dg k L j) π L n = false) → ∀ (H : Heap) (locs : List Loc) (ls : Array Slot), va_P D cls [cM h b ((pm : Nat) : Int) ((n : Nat) : Int) ((k : Nat) : Int) ((d : Nat) : Int) ((rr : Nat) : Int) ((hd : Nat) : Int) ((sm : Nat) : Int) kr kq ku s0 s1 s2 s3 y5 s5 hs, cR cI (b 1) 6 g0, cR cI (b 2) 6 g1, cR cI (b 3) 12 g3, cR cI (b 5) 12 r7, cR cI (b 6) 12 r8] H → va_D (va_A [cM h b ((pm : Nat) : Int) ((n : Nat) : Int) ((k : Nat) : Int) ((d : Nat) : Int) ((rr : Nat) : Int) ((hd : Nat) : Int) ((sm : Nat) : Int) kr kq ku s0 s1 s2 s3 s4 s5 hs, cR cI (b 1) 6 g0, cR cI (b 2) 6 g1, cR cI (b 3) 12 g3, cR cI (b 5) 12 q5, cR cI (b 6) 12 q6] sz) [cM h b ((pm : Nat) : Int) ((n : Nat) : Int) ((k : Nat) : Int) ((d : Nat) : Int) ((rr : Nat) : Int) ((hd : Nat) : Int) ((sm : Nat) : Int) kr kq ku s0 s1 s2 s3 y5 s5 hs, cR cI (b 1) 6 g0, cR cI (b 2) 6 g1, cR cI (b 3) 12 g3, cR cI (b 5) 12 r7, cR cI (b 6) 12 r8] → va_S (va_A [cM h b ((pm : Nat) : Int) ((n : Nat) : Int) ((k : Nat) : Int) ((d : Nat) : Int) ((rr : Nat) : Int) ((hd : Nat) : Int) ((sm : Nat) : Int) kr kq ku s0 s1 s2 s3 s4 s5 hs, cR cI (b 1) 6 g0, cR cI (b 2) 6 g1, cR cI (b 3) 12 g3, cR cI (b 5) 12 q5, cR cI (b 6) 12 q6] sz) s.heap H locs → lv_has ls 4 [(0, .ref h), (1, .int (zI ((w0 : Nat) : Int))), (2, .int (zI ((L : Nat) : Int))), (3, .int (zI ((no : Nat) : Int)))] → W p l e ({ frames := 6, cells := 0, slots := 0, locals := 141 }) s m args below meth c H locs 0 0 Qf (F0 m 9 ls []) := by
          intro N_9
          induction N_9 with
          | zero => intro no y5 r7 r8 hm_9; exact absurd hm_9 (Nat.not_lt_zero _)
          | succ N_9 ih_9 =>
            intro no y5 r7 r8 hm_9 hno1 hno H locs ls hP hD hS hl
            refine lv_iload_n hx hb dX4_homeOf_9 rfl (lv_at hl 3 rfl) ?_
            refine lv_aload_n hx hb dX4_homeOf_10 rfl (lv_at hl 0 rfl) ?_
            refine va_get (D := D) (ci := 4) (v := .int (zI ((k : Nat) : Int))) (C := RX4) (T := TX4) (N := 32) hx hb hts inT_X4 hown hE.1 hP 0 rfl rfl 3 (by decide) (hts _ qf_X4_89) (fun _ h9 => h9) rfl dX4_homeOf_11 ?_
            refine lv_iload_n hx hb dX4_homeOf_14 rfl (lv_at hl 2 rfl) ?_
            refine zcall_i (wc := []) (wr := [cM h b ((pm : Nat) : Int) ((n : Nat) : Int) ((k : Nat) : Int) ((d : Nat) : Int) ((rr : Nat) : Int) ((hd : Nat) : Int) ((sm : Nat) : Int) kr kq ku s0 s1 s2 s3 y5 s5 hs, cR cI (b 1) 6 g0, cR cI (b 2) 6 g1, cR cI (b 3) 12 g3, cR cI (b 5) 12 r7, cR cI (b 6) 12 r8]) (rest := [.int (zI ((no : Nat) : Int))]) hE hP hD hS hA [] [0, 1, 2, 3, 4, 5] [0, 1, 2, 3, 4, 5] rfl rfl (by decide) (by decide) (by decide) (fun (u : Unit) => [cM h b ((pm : Nat) : Int) ((n : Nat) : Int) ((k : Nat) : Int) ((d : Nat) : Int) ((rr : Nat) : Int) ((hd : Nat) : Int) ((sm : Nat) : Int) kr kq ku s0 s1 s2 s3 y5 s5 hs, cR cI (b 1) 6 g0, cR cI (b 2) 6 g1, cR cI (b 3) 12 g3, cR cI (b 5) 12 r7, cR cI (b 6) 12 r8]) (fun u => rfl) (fun hPc hDc => zrunS (As := [.int (zI ((k : Nat) : Int)), .int (zI ((L : Nat) : Int))]) (rest := [.int (zI ((no : Nat) : Int))]) K k_X4_power qm_X4_212 ⟨⟨rfl, rfl⟩, ⟨Nat.le_of_ble_eq_true rfl, Nat.le_of_ble_eq_true rfl⟩⟩ hPc hDc (c_X4_power l D cI k L (by first | assumption | omega) _) rfl hl.1 rfl (Nat.le_of_ble_eq_true rfl) dX4_homeOf_15 ⟨Nat.zero_le _, Nat.zero_le _⟩) (by decide) (fun z u H locs hpost hP hD hS => ?_)
            subst hpost
            have hP : va_P D cls [cM h b ((pm : Nat) : Int) ((n : Nat) : Int) ((k : Nat) : Int) ((d : Nat) : Int) ((rr : Nat) : Int) ((hd : Nat) : Int) ((sm : Nat) : Int) kr kq ku s0 s1 s2 s3 y5 s5 hs, cR cI (b 1) 6 g0, cR cI (b 2) 6 g1, cR cI (b 3) 12 g3, cR cI (b 5) 12 r7, cR cI (b 6) 12 r8] H := hP
            have hD : va_D (va_A [cM h b ((pm : Nat) : Int) ((n : Nat) : Int) ((k : Nat) : Int) ((d : Nat) : Int) ((rr : Nat) : Int) ((hd : Nat) : Int) ((sm : Nat) : Int) kr kq ku s0 s1 s2 s3 s4 s5 hs, cR cI (b 1) 6 g0, cR cI (b 2) 6 g1, cR cI (b 3) 12 g3, cR cI (b 5) 12 q5, cR cI (b 6) 12 q6] sz) [cM h b ((pm : Nat) : Int) ((n : Nat) : Int) ((k : Nat) : Int) ((d : Nat) : Int) ((rr : Nat) : Int) ((hd : Nat) : Int) ((sm : Nat) : Int) kr kq ku s0 s1 s2 s3 y5 s5 hs, cR cI (b 1) 6 g0, cR cI (b 2) 6 g1, cR cI (b 3) 12 g3, cR cI (b 5) 12 r7, cR cI (b 6) 12 r8] := hD
            refine W.eq (g2 := F0 m 18 ls [.int (zI (((k ^ L) : Nat) : Int)), .int (zI ((no : Nat) : Int))]) rfl ?_
            refine z_icmp_ge (tgt := 49) hx hb (by have h9 := pw_le hk (show L ≤ 4 by omega); omega) dX4_homeOf_18 (by decide) (fun c_18 => ?_) (fun c_18 => ?_)
            · refine z_iinc (k := 2) (lv' := [(2, .int (zI (((L + 1) : Nat) : Int))), (0, .ref h), (1, .int (zI ((w0 : Nat) : Int))), (3, .int (zI ((no : Nat) : Int)))]) hx hb (((L + 1) : Nat) : Int) (by omega) dX4_homeOf_49 hl rfl (by decide) rfl (fun ls hl => ?_)
              refine lv_goto (tgt := 2) hx hb dX4_homeOf_52 (by decide) ?_
              exact ih_2 (L + 1) y5 r7 r8 (by omega) (by omega) (by rw [hh, show 5 - L = (5 - (L + 1)) + 1 by omega, fHm, if_neg (by rw [fa_is (m := k ^ L) (fun j hj => hno j (by omega)) (Or.inl rfl)]; omega)]) _ _ _ hP hD hS (lv_sub hl [1, 2, 0] rfl)
            · refine lv_aload_n hx hb dX4_homeOf_21 rfl (lv_at hl 0 rfl) ?_
              refine lv_iload_n hx hb dX4_homeOf_22 rfl (lv_at hl 3 rfl) ?_
              refine lv_iload_n hx hb dX4_homeOf_23 rfl (lv_at hl 2 rfl) ?_
              refine zcall_i (wc := [cM h b ((pm : Nat) : Int) ((n : Nat) : Int) ((k : Nat) : Int) ((d : Nat) : Int) ((rr : Nat) : Int) ((hd : Nat) : Int) ((sm : Nat) : Int) kr kq ku s0 s1 s2 s3 y5 s5 hs, cR cI (b 1) 6 g0, cR cI (b 2) 6 g1, cR cI (b 3) 12 g3, cR cI (b 5) 12 r7, cR cI (b 6) 12 r8]) (wr := []) (rest := []) hE hP hD hS hA [0, 1, 2, 3, 4, 5] [] [0, 1, 2, 3, 4, 5] rfl rfl (by decide) (by decide) (by decide) (fun (u : (Int) × (Nat → Int) × (Nat → Int)) => [cM h b ((pm : Nat) : Int) ((n : Nat) : Int) ((k : Nat) : Int) ((d : Nat) : Int) ((rr : Nat) : Int) ((hd : Nat) : Int) ((sm : Nat) : Int) kr kq ku s0 s1 s2 s3 u.1 s5 hs, cR cI (b 1) 6 g0, cR cI (b 2) 6 g1, cR cI (b 3) 12 g3, cR cI (b 5) 12 u.2.1, cR cI (b 6) 12 u.2.2]) (fun u => rfl) (fun hPc hDc => zrunV (As := [.int (zI ((no : Nat) : Int)), .int (zI ((L : Nat) : Int))]) (rest := []) (q0 := 0) (ci := 4) K k_X4_isHomeBy qm_X4_215 ⟨⟨rfl, rfl⟩, ⟨Nat.le_of_ble_eq_true rfl, Nat.le_of_ble_eq_true rfl⟩⟩ rfl rfl hPc hDc (c_X4_isHomeBy l D cI h b pm n k d rr hd sm kr kq ku s0 s1 s2 s3 y5 s5 hs g0 g1 κ ν g3 r7 r8 π no L (by first | assumption | omega) (by first | assumption | omega) (by first | assumption | omega) (by first | assumption | omega) (by first | assumption | omega) (by first | assumption | omega) (by first | assumption | omega) (by first | assumption | omega) (by first | assumption | omega) (by first | assumption | omega) (by first | assumption | omega) (by have h9 := pw_le hk (show L ≤ 4 by omega); omega) _) rfl hl.1 rfl (Nat.le_of_ble_eq_true rfl) dX4_homeOf_24 ⟨Nat.zero_le _, Nat.zero_le _⟩) (by decide) (fun z u H locs hpost hP hD hS => ?_)
              obtain ⟨t_1, o_2, o_3⟩ := u
              obtain ⟨rfl, h4_24⟩ := hpost
              have h4_24 : t_1 = ((dgs (dg k L no) L : Nat) : Int) := h4_24
              have hP : va_P D cls [cM h b ((pm : Nat) : Int) ((n : Nat) : Int) ((k : Nat) : Int) ((d : Nat) : Int) ((rr : Nat) : Int) ((hd : Nat) : Int) ((sm : Nat) : Int) kr kq ku s0 s1 s2 s3 t_1 s5 hs, cR cI (b 1) 6 g0, cR cI (b 2) 6 g1, cR cI (b 3) 12 g3, cR cI (b 5) 12 o_2, cR cI (b 6) 12 o_3] H := hP
              have hD : va_D (va_A [cM h b ((pm : Nat) : Int) ((n : Nat) : Int) ((k : Nat) : Int) ((d : Nat) : Int) ((rr : Nat) : Int) ((hd : Nat) : Int) ((sm : Nat) : Int) kr kq ku s0 s1 s2 s3 s4 s5 hs, cR cI (b 1) 6 g0, cR cI (b 2) 6 g1, cR cI (b 3) 12 g3, cR cI (b 5) 12 q5, cR cI (b 6) 12 q6] sz) [cM h b ((pm : Nat) : Int) ((n : Nat) : Int) ((k : Nat) : Int) ((d : Nat) : Int) ((rr : Nat) : Int) ((hd : Nat) : Int) ((sm : Nat) : Int) kr kq ku s0 s1 s2 s3 t_1 s5 hs, cR cI (b 1) 6 g0, cR cI (b 2) 6 g1, cR cI (b 3) 12 g3, cR cI (b 5) 12 o_2, cR cI (b 6) 12 o_3] := hD
              refine W.eq (g2 := F0 m 27 ls [.int (zI (b01 (homB (mus n κ ν) (dg k L no) π L n = true)))]) rfl ?_
              refine z_if_eq (tgt := 43) hx hb (by have := b01_r (homB (mus n κ ν) (dg k L no) π L n = true); omega) dX4_homeOf_27 (by decide) (fun c_27 => ?_) (fun c_27 => ?_)
              · have b_27 := b01_eq c_27
                refine z_iinc (k := 3) (lv' := [(3, .int (zI (((no + 1) : Nat) : Int))), (0, .ref h), (1, .int (zI ((w0 : Nat) : Int))), (2, .int (zI ((L : Nat) : Int)))]) hx hb (((no + 1) : Nat) : Int) (by omega) dX4_homeOf_43 hl rfl (by decide) rfl (fun ls hl => ?_)
                refine lv_goto (tgt := 9) hx hb dX4_homeOf_46 (by decide) ?_
                exact ih_9 (no + 1) t_1 o_2 o_3 (by omega) (by omega) (by intro j hj; rcases Nat.lt_or_ge j no with h1 | h1; exact hno j h1; rw [show j = no by omega]; simpa using b_27) _ _ _ hP hD hS (lv_sub hl [1, 2, 3, 0] rfl)
              · have b_27 := b01_ne c_27
                have hfa : fa_first (fun q => homB (mus n κ ν) (dg k L q) π L n) (k ^ L) = no := fa_is hno (Or.inr ⟨by omega, b_27⟩)
                have hff : fHm (mus n κ ν) n k π w0 5 0 = if w0 = 0 then ((L : Nat) : Int) else ((dgs (dg k L no) L : Nat) : Int) := by rw [hh, show 5 - L = (5 - (L + 1)) + 1 by omega, fHm, if_pos (by rw [hfa]; omega), hfa]
                refine lv_iload_n hx hb dX4_homeOf_30 rfl (lv_at hl 1 rfl) ?_
                refine z_if_ne (tgt := 38) hx hb (by omega) dX4_homeOf_31 (by decide) (fun c_31 => ?_) (fun c_31 => ?_)
                · refine lv_aload_n hx hb dX4_homeOf_38 rfl (lv_at hl 0 rfl) ?_
                  refine va_get (D := D) (ci := 4) (v := .int (zI t_1)) (C := RX4) (T := TX4) (N := 32) hx hb hts inT_X4 hown hE.1 hP 0 rfl rfl 18 (by decide) (hts _ qf_X4_209) (fun _ h9 => h9) rfl dX4_homeOf_39 ?_
                  rw [← hQf]
                  exact z_iret K hS (t_1, o_2, o_3) (by rw [hff]; first | (rw [if_pos (by omega)]; done) | (rw [if_neg (by omega)]; exact h4_24)) hP hD dX4_homeOf_42
                · refine lv_iload_n hx hb dX4_homeOf_34 rfl (lv_at hl 2 rfl) ?_
                  refine lv_goto (tgt := 42) hx hb dX4_homeOf_35 (by decide) ?_
                  rw [← hQf]
                  exact z_iret K hS (t_1, o_2, o_3) (by rw [hff]; first | (rw [if_pos (by omega)]; done) | (rw [if_neg (by omega)]; exact h4_24)) hP hD dX4_homeOf_42
        exact cut_9 (k ^ L - 0 + 1) 0 y4 r5 r6 (Nat.lt_succ_self _) (by exact Nat.zero_le _) (by intro j hj; omega) _ _ _ hP hD hS (lv_sub hl [1, 2, 3, 0] rfl)
  exact cut_2 (5 - 0 + 1) 0 s4 q5 q6 (Nat.lt_succ_self _) (by omega) (by rfl) _ _ _ hP hD hS (lv_sub hl [1, 2, 0] rfl)
set_option maxHeartbeats 4000000 in
set_option maxRecDepth 100000 in
theorem c_X4_oddsOf (l : Launch) (D : va_G) (cI : ClassId) (h : Nat) (b : Nat → Nat) (pm n k d rr hd sm : Nat) (kr kq ku s0 s1 s2 s3 s4 s5 hs : Int) (g0 g1 : Nat → Int) (κ ν : Nat → Nat) (g3 q8 q9 : Nat → Int) (π : Nat → Nat) (x1 p1 m0 w0 : Nat) (hn : 2 ≤ n ∧ n ≤ 12) (hk : k ≤ 6) (hg0 : ∀ j, j < k → g0 j = ((κ j : Nat) : Int)) (hκ : ∀ j, j < k → κ j ≤ 4) (hg1 : ∀ j, j < k → g1 j = ((ν j : Nat) : Int)) (hν : ∀ j, j < k → ν j ≤ 9) (hg3 : ∀ j, j < n → g3 j = ((π j : Nat) : Int)) (hπ : ∀ j, j < n → π j < n) (hπi : inj π n) (hk1 : 1 ≤ k) (hx1 : x1 < n) (hp1 : p1 < n) (hm0 : 1 ≤ m0 ∧ m0 ≤ 8) (hw0 : w0 < 2) : zMi l yX4_oddsOf cX4_oddsOf 7 (some .int) ({ frames := 4, cells := 0, slots := 0, locals := 95 }) D cI [.ref h, .int (zI ((x1 : Nat) : Int)), .int (zI ((p1 : Nat) : Int)), .int (zI ((m0 : Nat) : Int)), .int (zI ((w0 : Nat) : Int))] [cM h b ((pm : Nat) : Int) ((n : Nat) : Int) ((k : Nat) : Int) ((d : Nat) : Int) ((rr : Nat) : Int) ((hd : Nat) : Int) ((sm : Nat) : Int) kr kq ku s0 s1 s2 s3 s4 s5 hs, cR cI (b 1) 6 g0, cR cI (b 2) 6 g1, cR cI (b 3) 12 g3, cR cI (b 8) 12 q8, cR cI (b 9) 12 q9] (fun (z : Int) (u : (Nat → Int) × (Nat → Int)) => (z = (fOd (mus n κ ν) n k π x1 p1 m0 w0)) ∧ (-2147483648 ≤ z ∧ z < 2147483648)) (fun (u : (Nat → Int) × (Nat → Int)) => [cM h b ((pm : Nat) : Int) ((n : Nat) : Int) ((k : Nat) : Int) ((d : Nat) : Int) ((rr : Nat) : Int) ((hd : Nat) : Int) ((sm : Nat) : Int) kr kq ku s0 s1 s2 s3 s4 s5 hs, cR cI (b 1) 6 g0, cR cI (b 2) 6 g1, cR cI (b 3) 12 g3, cR cI (b 8) 12 u.1, cR cI (b 9) 12 u.2]) := by
  intro sz
  refine zstart rfl (by decide) (Nat.le_of_ble_eq_true rfl) ?_
  intro p e s m below meth c ls K hnm hsz hP hD hS hl
  generalize hargs : ([.ref h, .int (zI ((x1 : Nat) : Int)), .int (zI ((p1 : Nat) : Int)), .int (zI ((m0 : Nat) : Int)), .int (zI ((w0 : Nat) : Int))] : List Value).toArray = args at K ⊢
  generalize hQf : MQ below _ args s _ _ _ = Qf
  have K : zK p s m args meth c cX4_oddsOf 7 RX4 (some .int) D cI := K
  obtain ⟨hx, hb, hml, hown, hts, hE, -, -⟩ := id K
  have hA := zhA (ws0 := [cM h b ((pm : Nat) : Int) ((n : Nat) : Int) ((k : Nat) : Int) ((d : Nat) : Int) ((rr : Nat) : Int) ((hd : Nat) : Int) ((sm : Nat) : Int) kr kq ku s0 s1 s2 s3 s4 s5 hs, cR cI (b 1) 6 g0, cR cI (b 2) 6 g1, cR cI (b 3) 12 g3, cR cI (b 8) 12 q8, cR cI (b 9) 12 q9]) hsz
  have hl : lv_has ls 7 [(0, .ref h), (1, .int (zI ((x1 : Nat) : Int))), (2, .int (zI ((p1 : Nat) : Int))), (3, .int (zI ((m0 : Nat) : Int))), (4, .int (zI ((w0 : Nat) : Int)))] := hl
  have hμ := mus_lt (k := k) hn.2 hκ hν
  have hμi := mus_inj (k := k) hn.2 hκ hν
  have hρ : ∀ j, j < n → rdc (mus n κ ν) k j < n := fun j hj => rdc_lt hμ (Nat.le_refl k) hj
  have hρi : inj (rdc (mus n κ ν) k) n := rdc_inj hμ hμi (Nat.le_refl k)
  have hpl : plo π n x1 < n := Nat.mod_lt _ (by omega)
  obtain ⟨f0, hf0⟩ : ∃ q, q = plo π n x1 := ⟨_, rfl⟩
  have hnk : n * k ≤ 12 * 6 := Nat.mul_le_mul hn.2 hk
  have hwl := wy_le (μ := mus n κ ν) (n := n) (k := k) (p0 := f0) (q := p1) (m := m0) (by omega) (by omega) (by omega) hμ
  have hp8 := pw8 (k := k) (m := m0) hk (by omega)
  have hkp : 0 < k ^ m0 := Nat.pow_pos (by omega)
  have hgp : 0 < Nat.gcd (k ^ m0) (wy (mus n κ ν) n k f0 m0 p1) := Nat.gcd_pos_of_pos_left _ hkp
  have hgl : Nat.gcd (k ^ m0) (wy (mus n κ ν) n k f0 m0 p1) ≤ k ^ m0 := Nat.gcd_le_left _ hkp
  have hdl := Nat.div_le_self (wy (mus n κ ν) n k f0 m0 p1) (Nat.gcd (k ^ m0) (wy (mus n κ ν) n k f0 m0 p1))
  have hdl2 := Nat.div_le_self (k ^ m0) (Nat.gcd (k ^ m0) (wy (mus n κ ν) n k f0 m0 p1))
  have hz1 : (0 : Int) ≤ ((wy (mus n κ ν) n k f0 m0 p1 / Nat.gcd (k ^ m0) (wy (mus n κ ν) n k f0 m0 p1) : Nat) : Int) := Int.natCast_nonneg _
  have hz2 : (0 : Int) ≤ ((k ^ m0 / Nat.gcd (k ^ m0) (wy (mus n κ ν) n k f0 m0 p1) : Nat) : Int) := Int.natCast_nonneg _
  refine lv_iconst (v := zI 0) hx hb dX4_oddsOf_0 rfl ?_
  refine lv_istore (lv' := [(5, .int (zI 0)), (0, .ref h), (1, .int (zI ((x1 : Nat) : Int))), (2, .int (zI ((p1 : Nat) : Int))), (3, .int (zI ((m0 : Nat) : Int))), (4, .int (zI ((w0 : Nat) : Int)))]) hx hb dX4_oddsOf_1 hl (by decide) rfl (fun ls hl => ?_)
  have cut_3 : ∀ (N_3 : Nat), ∀ (i : Nat) (r8 : Nat → Int), n - i < N_3 → (i ≤ n) → (∀ j, j < i → r8 j = ((wy (mus n κ ν) n k f0 0 j : Nat) : Int)) → ∀ (H : Heap) (locs : List Loc) (ls : Array Slot), va_P D cls [cM h b ((pm : Nat) : Int) ((n : Nat) : Int) ((k : Nat) : Int) ((d : Nat) : Int) ((rr : Nat) : Int) ((hd : Nat) : Int) ((sm : Nat) : Int) kr kq ku s0 s1 s2 s3 s4 s5 hs, cR cI (b 1) 6 g0, cR cI (b 2) 6 g1, cR cI (b 3) 12 g3, cR cI (b 8) 12 r8, cR cI (b 9) 12 q9] H → va_D (va_A [cM h b ((pm : Nat) : Int) ((n : Nat) : Int) ((k : Nat) : Int) ((d : Nat) : Int) ((rr : Nat) : Int) ((hd : Nat) : Int) ((sm : Nat) : Int) kr kq ku s0 s1 s2 s3 s4 s5 hs, cR cI (b 1) 6 g0, cR cI (b 2) 6 g1, cR cI (b 3) 12 g3, cR cI (b 8) 12 q8, cR cI (b 9) 12 q9] sz) [cM h b ((pm : Nat) : Int) ((n : Nat) : Int) ((k : Nat) : Int) ((d : Nat) : Int) ((rr : Nat) : Int) ((hd : Nat) : Int) ((sm : Nat) : Int) kr kq ku s0 s1 s2 s3 s4 s5 hs, cR cI (b 1) 6 g0, cR cI (b 2) 6 g1, cR cI (b 3) 12 g3, cR cI (b 8) 12 r8, cR cI (b 9) 12 q9] → va_S (va_A [cM h b ((pm : Nat) : Int) ((n : Nat) : Int) ((k : Nat) : Int) ((d : Nat) : Int) ((rr : Nat) : Int) ((hd : Nat) : Int) ((sm : Nat) : Int) kr kq ku s0 s1 s2 s3 s4 s5 hs, cR cI (b 1) 6 g0, cR cI (b 2) 6 g1, cR cI (b 3) 12 g3, cR cI (b 8) 12 q8, cR cI (b 9) 12 q9] sz) s.heap H locs → lv_has ls 7 [(0, .ref h), (1, .int (zI ((x1 : Nat) : Int))), (2, .int (zI ((p1 : Nat) : Int))), (3, .int (zI ((m0 : Nat) : Int))), (4, .int (zI ((w0 : Nat) : Int))), (5, .int (zI ((i : Nat) : Int)))] → W p l e ({ frames := 4, cells := 0, slots := 0, locals := 95 }) s m args below meth c H locs 0 0 Qf (F0 m 3 ls []) := by
    intro N_3
    induction N_3 with
    | zero => intro i r8 hm_3; exact absurd hm_3 (Nat.not_lt_zero _)
    | succ N_3 ih_3 =>
      intro i r8 hm_3 hi hr8 H locs ls hP hD hS hl
      refine lv_iload hx hb dX4_oddsOf_3 (lv_at hl 5 rfl) ?_
      refine lv_aload_n hx hb dX4_oddsOf_5 rfl (lv_at hl 0 rfl) ?_
      refine va_get (D := D) (ci := 4) (v := .int (zI ((n : Nat) : Int))) (C := RX4) (T := TX4) (N := 32) hx hb hts inT_X4 hown hE.1 hP 0 rfl rfl 2 (by decide) (hts _ qf_X4_86) (fun _ h9 => h9) rfl dX4_oddsOf_6 ?_
      refine z_icmp_ge (tgt := 40) hx hb (by omega) dX4_oddsOf_9 (by decide) (fun c_9 => ?_) (fun c_9 => ?_)
      · refine lv_iconst (v := zI 0) hx hb dX4_oddsOf_40 rfl ?_
        refine lv_istore (lv' := [(5, .int (zI 0)), (0, .ref h), (1, .int (zI ((x1 : Nat) : Int))), (2, .int (zI ((p1 : Nat) : Int))), (3, .int (zI ((m0 : Nat) : Int))), (4, .int (zI ((w0 : Nat) : Int)))]) hx hb dX4_oddsOf_41 hl (by decide) rfl (fun ls hl => ?_)
        have cut_43 : ∀ (N_43 : Nat), ∀ (i1 : Nat) (u8 u9 : Nat → Int), m0 - i1 < N_43 → (i1 ≤ m0) → (∀ j, j < n → u8 j = ((wy (mus n κ ν) n k f0 i1 j : Nat) : Int)) → ∀ (H : Heap) (locs : List Loc) (ls : Array Slot), va_P D cls [cM h b ((pm : Nat) : Int) ((n : Nat) : Int) ((k : Nat) : Int) ((d : Nat) : Int) ((rr : Nat) : Int) ((hd : Nat) : Int) ((sm : Nat) : Int) kr kq ku s0 s1 s2 s3 s4 s5 hs, cR cI (b 1) 6 g0, cR cI (b 2) 6 g1, cR cI (b 3) 12 g3, cR cI (b 8) 12 u8, cR cI (b 9) 12 u9] H → va_D (va_A [cM h b ((pm : Nat) : Int) ((n : Nat) : Int) ((k : Nat) : Int) ((d : Nat) : Int) ((rr : Nat) : Int) ((hd : Nat) : Int) ((sm : Nat) : Int) kr kq ku s0 s1 s2 s3 s4 s5 hs, cR cI (b 1) 6 g0, cR cI (b 2) 6 g1, cR cI (b 3) 12 g3, cR cI (b 8) 12 q8, cR cI (b 9) 12 q9] sz) [cM h b ((pm : Nat) : Int) ((n : Nat) : Int) ((k : Nat) : Int) ((d : Nat) : Int) ((rr : Nat) : Int) ((hd : Nat) : Int) ((sm : Nat) : Int) kr kq ku s0 s1 s2 s3 s4 s5 hs, cR cI (b 1) 6 g0, cR cI (b 2) 6 g1, cR cI (b 3) 12 g3, cR cI (b 8) 12 u8, cR cI (b 9) 12 u9] → va_S (va_A [cM h b ((pm : Nat) : Int) ((n : Nat) : Int) ((k : Nat) : Int) ((d : Nat) : Int) ((rr : Nat) : Int) ((hd : Nat) : Int) ((sm : Nat) : Int) kr kq ku s0 s1 s2 s3 s4 s5 hs, cR cI (b 1) 6 g0, cR cI (b 2) 6 g1, cR cI (b 3) 12 g3, cR cI (b 8) 12 q8, cR cI (b 9) 12 q9] sz) s.heap H locs → lv_has ls 7 [(0, .ref h), (1, .int (zI ((x1 : Nat) : Int))), (2, .int (zI ((p1 : Nat) : Int))), (3, .int (zI ((m0 : Nat) : Int))), (4, .int (zI ((w0 : Nat) : Int))), (5, .int (zI ((i1 : Nat) : Int)))] → W p l e ({ frames := 4, cells := 0, slots := 0, locals := 95 }) s m args below meth c H locs 0 0 Qf (F0 m 43 ls []) := by
          intro N_43
          induction N_43 with
          | zero => intro i1 u8 u9 hm_43; exact absurd hm_43 (Nat.not_lt_zero _)
          | succ N_43 ih_43 =>
            intro i1 u8 u9 hm_43 hi1 hu8 H locs ls hP hD hS hl
            refine lv_iload hx hb dX4_oddsOf_43 (lv_at hl 5 rfl) ?_
            refine lv_iload_n hx hb dX4_oddsOf_45 rfl (lv_at hl 3 rfl) ?_
            refine z_icmp_ge (tgt := 153) hx hb (by omega) dX4_oddsOf_46 (by decide) (fun c_46 => ?_) (fun c_46 => ?_)
            · refine lv_aload_n hx hb dX4_oddsOf_153 rfl (lv_at hl 0 rfl) ?_
              refine va_get (D := D) (ci := 4) (v := .int (zI ((k : Nat) : Int))) (C := RX4) (T := TX4) (N := 32) hx hb hts inT_X4 hown hE.1 hP 0 rfl rfl 3 (by decide) (hts _ qf_X4_89) (fun _ h9 => h9) rfl dX4_oddsOf_154 ?_
              refine lv_iload_n hx hb dX4_oddsOf_157 rfl (lv_at hl 3 rfl) ?_
              refine zcall_i (wc := []) (wr := [cM h b ((pm : Nat) : Int) ((n : Nat) : Int) ((k : Nat) : Int) ((d : Nat) : Int) ((rr : Nat) : Int) ((hd : Nat) : Int) ((sm : Nat) : Int) kr kq ku s0 s1 s2 s3 s4 s5 hs, cR cI (b 1) 6 g0, cR cI (b 2) 6 g1, cR cI (b 3) 12 g3, cR cI (b 8) 12 u8, cR cI (b 9) 12 u9]) (rest := []) hE hP hD hS hA [] [0, 1, 2, 3, 4, 5] [0, 1, 2, 3, 4, 5] rfl rfl (by decide) (by decide) (by decide) (fun (u : Unit) => [cM h b ((pm : Nat) : Int) ((n : Nat) : Int) ((k : Nat) : Int) ((d : Nat) : Int) ((rr : Nat) : Int) ((hd : Nat) : Int) ((sm : Nat) : Int) kr kq ku s0 s1 s2 s3 s4 s5 hs, cR cI (b 1) 6 g0, cR cI (b 2) 6 g1, cR cI (b 3) 12 g3, cR cI (b 8) 12 u8, cR cI (b 9) 12 u9]) (fun u => rfl) (fun hPc hDc => zrunS (As := [.int (zI ((k : Nat) : Int)), .int (zI ((m0 : Nat) : Int))]) (rest := []) K k_X4_power qm_X4_212 ⟨⟨rfl, rfl⟩, ⟨Nat.le_of_ble_eq_true rfl, Nat.le_of_ble_eq_true rfl⟩⟩ hPc hDc (c_X4_power l D cI k m0 (by first | assumption | omega) _) rfl hl.1 rfl (Nat.le_of_ble_eq_true rfl) dX4_oddsOf_158 ⟨Nat.zero_le _, Nat.zero_le _⟩) (by decide) (fun z u H locs hpost hP hD hS => ?_)
              subst hpost
              have hP : va_P D cls [cM h b ((pm : Nat) : Int) ((n : Nat) : Int) ((k : Nat) : Int) ((d : Nat) : Int) ((rr : Nat) : Int) ((hd : Nat) : Int) ((sm : Nat) : Int) kr kq ku s0 s1 s2 s3 s4 s5 hs, cR cI (b 1) 6 g0, cR cI (b 2) 6 g1, cR cI (b 3) 12 g3, cR cI (b 8) 12 u8, cR cI (b 9) 12 u9] H := hP
              have hD : va_D (va_A [cM h b ((pm : Nat) : Int) ((n : Nat) : Int) ((k : Nat) : Int) ((d : Nat) : Int) ((rr : Nat) : Int) ((hd : Nat) : Int) ((sm : Nat) : Int) kr kq ku s0 s1 s2 s3 s4 s5 hs, cR cI (b 1) 6 g0, cR cI (b 2) 6 g1, cR cI (b 3) 12 g3, cR cI (b 8) 12 q8, cR cI (b 9) 12 q9] sz) [cM h b ((pm : Nat) : Int) ((n : Nat) : Int) ((k : Nat) : Int) ((d : Nat) : Int) ((rr : Nat) : Int) ((hd : Nat) : Int) ((sm : Nat) : Int) kr kq ku s0 s1 s2 s3 s4 s5 hs, cR cI (b 1) 6 g0, cR cI (b 2) 6 g1, cR cI (b 3) 12 g3, cR cI (b 8) 12 u8, cR cI (b 9) 12 u9] := hD
              refine W.eq (g2 := F0 m 161 ls [.int (zI (((k ^ m0) : Nat) : Int))]) rfl ?_
              refine lv_istore (lv' := [(5, .int (zI (((k ^ m0) : Nat) : Int))), (0, .ref h), (1, .int (zI ((x1 : Nat) : Int))), (2, .int (zI ((p1 : Nat) : Int))), (3, .int (zI ((m0 : Nat) : Int))), (4, .int (zI ((w0 : Nat) : Int)))]) hx hb dX4_oddsOf_161 hl (by decide) rfl (fun ls hl => ?_)
              refine lv_iload hx hb dX4_oddsOf_163 (lv_at hl 0 rfl) ?_
              refine lv_aload_n hx hb dX4_oddsOf_165 rfl (lv_at hl 1 rfl) ?_
              refine va_get (D := D) (ci := 4) (v := .ref (b 8)) (C := RX4) (T := TX4) (N := 32) hx hb hts inT_X4 hown hE.1 hP 0 rfl rfl 19 (by decide) (hts _ qf_X4_34) (fun _ h9 => h9) rfl dX4_oddsOf_166 ?_
              refine lv_iload_n hx hb dX4_oddsOf_169 rfl (lv_at hl 3 rfl) ?_
              refine z_iald hx hb hE hP 4 rfl p1 (by omega) (by omega) (by first | decide | omega) ((wy (mus n κ ν) n k f0 m0 p1 : Nat) : Int) (by rw [hu8 p1 hp1, show i1 = m0 by omega]) dX4_oddsOf_170 ?_
              refine zcall_i (wc := []) (wr := [cM h b ((pm : Nat) : Int) ((n : Nat) : Int) ((k : Nat) : Int) ((d : Nat) : Int) ((rr : Nat) : Int) ((hd : Nat) : Int) ((sm : Nat) : Int) kr kq ku s0 s1 s2 s3 s4 s5 hs, cR cI (b 1) 6 g0, cR cI (b 2) 6 g1, cR cI (b 3) 12 g3, cR cI (b 8) 12 u8, cR cI (b 9) 12 u9]) (rest := []) hE hP hD hS hA [] [0, 1, 2, 3, 4, 5] [0, 1, 2, 3, 4, 5] rfl rfl (by decide) (by decide) (by decide) (fun (u : Unit) => [cM h b ((pm : Nat) : Int) ((n : Nat) : Int) ((k : Nat) : Int) ((d : Nat) : Int) ((rr : Nat) : Int) ((hd : Nat) : Int) ((sm : Nat) : Int) kr kq ku s0 s1 s2 s3 s4 s5 hs, cR cI (b 1) 6 g0, cR cI (b 2) 6 g1, cR cI (b 3) 12 g3, cR cI (b 8) 12 u8, cR cI (b 9) 12 u9]) (fun u => rfl) (fun hPc hDc => zrunS (As := [.int (zI (((k ^ m0) : Nat) : Int)), .int (zI ((wy (mus n κ ν) n k f0 m0 p1 : Nat) : Int))]) (rest := []) K k_X4_common qm_X4_146 ⟨⟨rfl, rfl⟩, ⟨Nat.le_of_ble_eq_true rfl, Nat.le_of_ble_eq_true rfl⟩⟩ hPc hDc (c_X4_common l D cI (k ^ m0) (wy (mus n κ ν) n k f0 m0 p1) (by first | assumption | omega) (by first | assumption | omega) _) rfl hl.1 rfl (Nat.le_of_ble_eq_true rfl) dX4_oddsOf_171 ⟨Nat.zero_le _, Nat.zero_le _⟩) (by decide) (fun z u H locs hpost hP hD hS => ?_)
              subst hpost
              have hP : va_P D cls [cM h b ((pm : Nat) : Int) ((n : Nat) : Int) ((k : Nat) : Int) ((d : Nat) : Int) ((rr : Nat) : Int) ((hd : Nat) : Int) ((sm : Nat) : Int) kr kq ku s0 s1 s2 s3 s4 s5 hs, cR cI (b 1) 6 g0, cR cI (b 2) 6 g1, cR cI (b 3) 12 g3, cR cI (b 8) 12 u8, cR cI (b 9) 12 u9] H := hP
              have hD : va_D (va_A [cM h b ((pm : Nat) : Int) ((n : Nat) : Int) ((k : Nat) : Int) ((d : Nat) : Int) ((rr : Nat) : Int) ((hd : Nat) : Int) ((sm : Nat) : Int) kr kq ku s0 s1 s2 s3 s4 s5 hs, cR cI (b 1) 6 g0, cR cI (b 2) 6 g1, cR cI (b 3) 12 g3, cR cI (b 8) 12 q8, cR cI (b 9) 12 q9] sz) [cM h b ((pm : Nat) : Int) ((n : Nat) : Int) ((k : Nat) : Int) ((d : Nat) : Int) ((rr : Nat) : Int) ((hd : Nat) : Int) ((sm : Nat) : Int) kr kq ku s0 s1 s2 s3 s4 s5 hs, cR cI (b 1) 6 g0, cR cI (b 2) 6 g1, cR cI (b 3) 12 g3, cR cI (b 8) 12 u8, cR cI (b 9) 12 u9] := hD
              refine W.eq (g2 := F0 m 174 ls [.int (zI (((Nat.gcd (k ^ m0) (wy (mus n κ ν) n k f0 m0 p1)) : Nat) : Int))]) rfl ?_
              refine lv_istore (lv' := [(6, .int (zI (((Nat.gcd (k ^ m0) (wy (mus n κ ν) n k f0 m0 p1)) : Nat) : Int))), (5, .int (zI (((k ^ m0) : Nat) : Int))), (0, .ref h), (1, .int (zI ((x1 : Nat) : Int))), (2, .int (zI ((p1 : Nat) : Int))), (3, .int (zI ((m0 : Nat) : Int))), (4, .int (zI ((w0 : Nat) : Int)))]) hx hb dX4_oddsOf_174 hl (by decide) rfl (fun ls hl => ?_)
              refine lv_iload hx hb dX4_oddsOf_176 (lv_at hl 6 rfl) ?_
              refine z_if_ne (tgt := 193) hx hb (by omega) dX4_oddsOf_178 (by decide) (fun c_178 => ?_) (fun c_178 => ?_)
              · refine lv_iload hx hb dX4_oddsOf_193 (lv_at hl 1 rfl) ?_
                refine lv_iload hx hb dX4_oddsOf_195 (lv_at hl 0 rfl) ?_
                refine z_idiv hx hb ((((k ^ m0) / (Nat.gcd (k ^ m0) (wy (mus n κ ν) n k f0 m0 p1))) : Nat) : Int) (by omega) rfl dX4_oddsOf_197 ?_
                rw [← hQf]
                exact z_iret K hS (u8, u9) ⟨(by rw [fOd, ← hf0]; first | (rw [if_pos (by omega)]; done) | rw [if_neg (by omega)]), (by (try dsimp only); omega)⟩ hP hD dX4_oddsOf_198
              · refine lv_aload_n hx hb dX4_oddsOf_181 rfl (lv_at hl 2 rfl) ?_
                refine va_get (D := D) (ci := 4) (v := .ref (b 8)) (C := RX4) (T := TX4) (N := 32) hx hb hts inT_X4 hown hE.1 hP 0 rfl rfl 19 (by decide) (hts _ qf_X4_34) (fun _ h9 => h9) rfl dX4_oddsOf_182 ?_
                refine lv_iload_n hx hb dX4_oddsOf_185 rfl (lv_at hl 4 rfl) ?_
                refine z_iald hx hb hE hP 4 rfl p1 (by omega) (by omega) (by first | decide | omega) ((wy (mus n κ ν) n k f0 m0 p1 : Nat) : Int) (by rw [hu8 p1 hp1, show i1 = m0 by omega]) dX4_oddsOf_186 ?_
                refine lv_iload hx hb dX4_oddsOf_187 (lv_at hl 0 rfl) ?_
                refine z_idiv hx hb ((((wy (mus n κ ν) n k f0 m0 p1) / (Nat.gcd (k ^ m0) (wy (mus n κ ν) n k f0 m0 p1))) : Nat) : Int) (by omega) rfl dX4_oddsOf_189 ?_
                refine lv_goto (tgt := 198) hx hb dX4_oddsOf_190 (by decide) ?_
                rw [← hQf]
                exact z_iret K hS (u8, u9) ⟨(by rw [fOd, ← hf0]; first | (rw [if_pos (by omega)]; done) | rw [if_neg (by omega)]), (by (try dsimp only); omega)⟩ hP hD dX4_oddsOf_198
            · refine lv_iconst (v := zI 0) hx hb dX4_oddsOf_49 rfl ?_
              refine lv_istore (lv' := [(6, .int (zI 0)), (0, .ref h), (1, .int (zI ((x1 : Nat) : Int))), (2, .int (zI ((p1 : Nat) : Int))), (3, .int (zI ((m0 : Nat) : Int))), (4, .int (zI ((w0 : Nat) : Int))), (5, .int (zI ((i1 : Nat) : Int)))]) hx hb dX4_oddsOf_50 hl (by decide) rfl (fun ls hl => ?_)
              have cut_52 : ∀ (N_52 : Nat), ∀ (i2 : Nat) (w9 : Nat → Int), n - i2 < N_52 → (i2 ≤ n) → (∀ j, j < i2 → w9 j = 0) → ∀ (H : Heap) (locs : List Loc) (ls : Array Slot), va_P D cls [cM h b ((pm : Nat) : Int) ((n : Nat) : Int) ((k : Nat) : Int) ((d : Nat) : Int) ((rr : Nat) : Int) ((hd : Nat) : Int) ((sm : Nat) : Int) kr kq ku s0 s1 s2 s3 s4 s5 hs, cR cI (b 1) 6 g0, cR cI (b 2) 6 g1, cR cI (b 3) 12 g3, cR cI (b 8) 12 u8, cR cI (b 9) 12 w9] H → va_D (va_A [cM h b ((pm : Nat) : Int) ((n : Nat) : Int) ((k : Nat) : Int) ((d : Nat) : Int) ((rr : Nat) : Int) ((hd : Nat) : Int) ((sm : Nat) : Int) kr kq ku s0 s1 s2 s3 s4 s5 hs, cR cI (b 1) 6 g0, cR cI (b 2) 6 g1, cR cI (b 3) 12 g3, cR cI (b 8) 12 q8, cR cI (b 9) 12 q9] sz) [cM h b ((pm : Nat) : Int) ((n : Nat) : Int) ((k : Nat) : Int) ((d : Nat) : Int) ((rr : Nat) : Int) ((hd : Nat) : Int) ((sm : Nat) : Int) kr kq ku s0 s1 s2 s3 s4 s5 hs, cR cI (b 1) 6 g0, cR cI (b 2) 6 g1, cR cI (b 3) 12 g3, cR cI (b 8) 12 u8, cR cI (b 9) 12 w9] → va_S (va_A [cM h b ((pm : Nat) : Int) ((n : Nat) : Int) ((k : Nat) : Int) ((d : Nat) : Int) ((rr : Nat) : Int) ((hd : Nat) : Int) ((sm : Nat) : Int) kr kq ku s0 s1 s2 s3 s4 s5 hs, cR cI (b 1) 6 g0, cR cI (b 2) 6 g1, cR cI (b 3) 12 g3, cR cI (b 8) 12 q8, cR cI (b 9) 12 q9] sz) s.heap H locs → lv_has ls 7 [(0, .ref h), (1, .int (zI ((x1 : Nat) : Int))), (2, .int (zI ((p1 : Nat) : Int))), (3, .int (zI ((m0 : Nat) : Int))), (4, .int (zI ((w0 : Nat) : Int))), (5, .int (zI ((i1 : Nat) : Int))), (6, .int (zI ((i2 : Nat) : Int)))] → W p l e ({ frames := 4, cells := 0, slots := 0, locals := 95 }) s m args below meth c H locs 0 0 Qf (F0 m 52 ls []) := by
                intro N_52
                induction N_52 with
                | zero => intro i2 w9 hm_52; exact absurd hm_52 (Nat.not_lt_zero _)
                | succ N_52 ih_52 =>
                  intro i2 w9 hm_52 hi2 hw9 H locs ls hP hD hS hl
                  refine lv_iload hx hb dX4_oddsOf_52 (lv_at hl 6 rfl) ?_
                  refine lv_aload_n hx hb dX4_oddsOf_54 rfl (lv_at hl 0 rfl) ?_
                  refine va_get (D := D) (ci := 4) (v := .int (zI ((n : Nat) : Int))) (C := RX4) (T := TX4) (N := 32) hx hb hts inT_X4 hown hE.1 hP 0 rfl rfl 2 (by decide) (hts _ qf_X4_86) (fun _ h9 => h9) rfl dX4_oddsOf_55 ?_
                  refine z_icmp_ge (tgt := 75) hx hb (by omega) dX4_oddsOf_58 (by decide) (fun c_58 => ?_) (fun c_58 => ?_)
                  · refine lv_iconst (v := zI 0) hx hb dX4_oddsOf_75 rfl ?_
                    refine lv_istore (lv' := [(6, .int (zI 0)), (0, .ref h), (1, .int (zI ((x1 : Nat) : Int))), (2, .int (zI ((p1 : Nat) : Int))), (3, .int (zI ((m0 : Nat) : Int))), (4, .int (zI ((w0 : Nat) : Int))), (5, .int (zI ((i1 : Nat) : Int)))]) hx hb dX4_oddsOf_76 hl (by decide) rfl (fun ls hl => ?_)
                    have cut_78 : ∀ (N_78 : Nat), ∀ (t1 : Nat) (v9 : Nat → Int), n * k - t1 < N_78 → (t1 ≤ n * k) → (∀ j, j < n → v9 j = ((ac (mus n κ ν) k (wy (mus n κ ν) n k f0 i1) j t1 : Nat) : Int)) → ∀ (H : Heap) (locs : List Loc) (ls : Array Slot), va_P D cls [cM h b ((pm : Nat) : Int) ((n : Nat) : Int) ((k : Nat) : Int) ((d : Nat) : Int) ((rr : Nat) : Int) ((hd : Nat) : Int) ((sm : Nat) : Int) kr kq ku s0 s1 s2 s3 s4 s5 hs, cR cI (b 1) 6 g0, cR cI (b 2) 6 g1, cR cI (b 3) 12 g3, cR cI (b 8) 12 u8, cR cI (b 9) 12 v9] H → va_D (va_A [cM h b ((pm : Nat) : Int) ((n : Nat) : Int) ((k : Nat) : Int) ((d : Nat) : Int) ((rr : Nat) : Int) ((hd : Nat) : Int) ((sm : Nat) : Int) kr kq ku s0 s1 s2 s3 s4 s5 hs, cR cI (b 1) 6 g0, cR cI (b 2) 6 g1, cR cI (b 3) 12 g3, cR cI (b 8) 12 q8, cR cI (b 9) 12 q9] sz) [cM h b ((pm : Nat) : Int) ((n : Nat) : Int) ((k : Nat) : Int) ((d : Nat) : Int) ((rr : Nat) : Int) ((hd : Nat) : Int) ((sm : Nat) : Int) kr kq ku s0 s1 s2 s3 s4 s5 hs, cR cI (b 1) 6 g0, cR cI (b 2) 6 g1, cR cI (b 3) 12 g3, cR cI (b 8) 12 u8, cR cI (b 9) 12 v9] → va_S (va_A [cM h b ((pm : Nat) : Int) ((n : Nat) : Int) ((k : Nat) : Int) ((d : Nat) : Int) ((rr : Nat) : Int) ((hd : Nat) : Int) ((sm : Nat) : Int) kr kq ku s0 s1 s2 s3 s4 s5 hs, cR cI (b 1) 6 g0, cR cI (b 2) 6 g1, cR cI (b 3) 12 g3, cR cI (b 8) 12 q8, cR cI (b 9) 12 q9] sz) s.heap H locs → lv_has ls 7 [(0, .ref h), (1, .int (zI ((x1 : Nat) : Int))), (2, .int (zI ((p1 : Nat) : Int))), (3, .int (zI ((m0 : Nat) : Int))), (4, .int (zI ((w0 : Nat) : Int))), (5, .int (zI ((i1 : Nat) : Int))), (6, .int (zI ((t1 : Nat) : Int)))] → W p l e ({ frames := 4, cells := 0, slots := 0, locals := 95 }) s m args below meth c H locs 0 0 Qf (F0 m 78 ls []) := by
                      intro N_78
                      induction N_78 with
                      | zero => intro t1 v9 hm_78; exact absurd hm_78 (Nat.not_lt_zero _)
                      | succ N_78 ih_78 =>
                        intro t1 v9 hm_78 ht1 hv9 H locs ls hP hD hS hl
                        refine lv_iload hx hb dX4_oddsOf_78 (lv_at hl 6 rfl) ?_
                        refine lv_aload_n hx hb dX4_oddsOf_80 rfl (lv_at hl 0 rfl) ?_
                        refine va_get (D := D) (ci := 4) (v := .int (zI ((n : Nat) : Int))) (C := RX4) (T := TX4) (N := 32) hx hb hts inT_X4 hown hE.1 hP 0 rfl rfl 2 (by decide) (hts _ qf_X4_86) (fun _ h9 => h9) rfl dX4_oddsOf_81 ?_
                        refine lv_aload_n hx hb dX4_oddsOf_84 rfl (lv_at hl 0 rfl) ?_
                        refine va_get (D := D) (ci := 4) (v := .int (zI ((k : Nat) : Int))) (C := RX4) (T := TX4) (N := 32) hx hb hts inT_X4 hown hE.1 hP 0 rfl rfl 3 (by decide) (hts _ qf_X4_89) (fun _ h9 => h9) rfl dX4_oddsOf_85 ?_
                        refine z_imul hx hb (((n * k) : Nat) : Int) (by first | omega | exact (Int.natCast_mul _ _).symm) dX4_oddsOf_88 ?_
                        refine z_icmp_ge (tgt := 136) hx hb (by omega) dX4_oddsOf_89 (by decide) (fun c_89 => ?_) (fun c_89 => ?_)
                        · refine lv_aload_n hx hb dX4_oddsOf_136 rfl (lv_at hl 0 rfl) ?_
                          refine va_get (D := D) (ci := 4) (v := .ref (b 9)) (C := RX4) (T := TX4) (N := 32) hx hb hts inT_X4 hown hE.1 hP 0 rfl rfl 20 (by decide) (hts _ qf_X4_37) (fun _ h9 => h9) rfl dX4_oddsOf_137 ?_
                          refine lv_aload_n hx hb dX4_oddsOf_140 rfl (lv_at hl 0 rfl) ?_
                          refine va_get (D := D) (ci := 4) (v := .ref (b 8)) (C := RX4) (T := TX4) (N := 32) hx hb hts inT_X4 hown hE.1 hP 0 rfl rfl 19 (by decide) (hts _ qf_X4_34) (fun _ h9 => h9) rfl dX4_oddsOf_141 ?_
                          refine zcall_v (wc := [cR cI (b 9) 12 v9, cR cI (b 8) 12 u8]) (wr := [cM h b ((pm : Nat) : Int) ((n : Nat) : Int) ((k : Nat) : Int) ((d : Nat) : Int) ((rr : Nat) : Int) ((hd : Nat) : Int) ((sm : Nat) : Int) kr kq ku s0 s1 s2 s3 s4 s5 hs, cR cI (b 1) 6 g0, cR cI (b 2) 6 g1, cR cI (b 3) 12 g3]) (rest := []) hE hP hD hS hA [5, 4] [0, 1, 2, 3] [0, 1, 2, 3, 5, 4] rfl rfl (by decide) (by decide) (by decide) (fun (u : Unit) => [cM h b ((pm : Nat) : Int) ((n : Nat) : Int) ((k : Nat) : Int) ((d : Nat) : Int) ((rr : Nat) : Int) ((hd : Nat) : Int) ((sm : Nat) : Int) kr kq ku s0 s1 s2 s3 s4 s5 hs, cR cI (b 1) 6 g0, cR cI (b 2) 6 g1, cR cI (b 3) 12 g3, cR cI (b 8) 12 (zcp v9 u8 12), cR cI (b 9) 12 v9]) (fun u => rfl) (fun hPc hDc => zrunS (As := [.ref (b 9), .ref (b 8)]) (rest := []) K k_X4_copy qm_X4_186 ⟨⟨rfl, rfl⟩, ⟨Nat.le_of_ble_eq_true rfl, Nat.le_of_ble_eq_true rfl⟩⟩ hPc hDc (c_X4_copy l D cI (b 9) (b 8) 12 12 v9 u8 (by first | assumption | omega) (by first | assumption | omega) _) rfl hl.1 rfl (Nat.le_of_ble_eq_true rfl) dX4_oddsOf_144 ⟨Nat.zero_le _, Nat.zero_le _⟩) (by decide) (fun u H locs hpost hP hD hS => ?_)
                          have hP : va_P D cls [cM h b ((pm : Nat) : Int) ((n : Nat) : Int) ((k : Nat) : Int) ((d : Nat) : Int) ((rr : Nat) : Int) ((hd : Nat) : Int) ((sm : Nat) : Int) kr kq ku s0 s1 s2 s3 s4 s5 hs, cR cI (b 1) 6 g0, cR cI (b 2) 6 g1, cR cI (b 3) 12 g3, cR cI (b 8) 12 (zcp v9 u8 12), cR cI (b 9) 12 v9] H := hP
                          have hD : va_D (va_A [cM h b ((pm : Nat) : Int) ((n : Nat) : Int) ((k : Nat) : Int) ((d : Nat) : Int) ((rr : Nat) : Int) ((hd : Nat) : Int) ((sm : Nat) : Int) kr kq ku s0 s1 s2 s3 s4 s5 hs, cR cI (b 1) 6 g0, cR cI (b 2) 6 g1, cR cI (b 3) 12 g3, cR cI (b 8) 12 q8, cR cI (b 9) 12 q9] sz) [cM h b ((pm : Nat) : Int) ((n : Nat) : Int) ((k : Nat) : Int) ((d : Nat) : Int) ((rr : Nat) : Int) ((hd : Nat) : Int) ((sm : Nat) : Int) kr kq ku s0 s1 s2 s3 s4 s5 hs, cR cI (b 1) 6 g0, cR cI (b 2) 6 g1, cR cI (b 3) 12 g3, cR cI (b 8) 12 (zcp v9 u8 12), cR cI (b 9) 12 v9] := hD
                          refine z_iinc (k := 5) (lv' := [(5, .int (zI (((i1 + 1) : Nat) : Int))), (0, .ref h), (1, .int (zI ((x1 : Nat) : Int))), (2, .int (zI ((p1 : Nat) : Int))), (3, .int (zI ((m0 : Nat) : Int))), (4, .int (zI ((w0 : Nat) : Int))), (6, .int (zI ((t1 : Nat) : Int)))]) hx hb (((i1 + 1) : Nat) : Int) (by omega) dX4_oddsOf_147 hl rfl (by decide) rfl (fun ls hl => ?_)
                          refine lv_goto (tgt := 43) hx hb dX4_oddsOf_150 (by decide) ?_
                          exact ih_43 (i1 + 1) (zcp v9 u8 12) v9 (by omega) (by omega) (by intro j hj; rw [zcp_lt (by omega), hv9 j hj, show t1 = n * k by omega]; rfl) _ _ _ hP hD hS (lv_sub hl [1, 2, 3, 4, 5, 0] rfl)
                        · have hp2 : t1 / k < n := div_lt_of (by omega)
                          have hs2k : t1 % k < k := Nat.mod_lt _ (by omega)
                          obtain ⟨P2, hP2⟩ : ∃ q, q = t1 / k := ⟨_, rfl⟩
                          obtain ⟨S2, hS2⟩ : ∃ q, q = t1 % k := ⟨_, rfl⟩
                          rw [← hP2] at hp2
                          rw [← hS2] at hs2k
                          have hms := hμ S2 P2 hs2k hp2
                          refine lv_aload_n hx hb dX4_oddsOf_92 rfl (lv_at hl 0 rfl) ?_
                          refine va_get (D := D) (ci := 4) (v := .ref (b 9)) (C := RX4) (T := TX4) (N := 32) hx hb hts inT_X4 hown hE.1 hP 0 rfl rfl 20 (by decide) (hts _ qf_X4_37) (fun _ h9 => h9) rfl dX4_oddsOf_93 ?_
                          refine lv_aload_n hx hb dX4_oddsOf_96 rfl (lv_at hl 0 rfl) ?_
                          refine lv_iload hx hb dX4_oddsOf_97 (lv_at hl 6 rfl) ?_
                          refine lv_aload_n hx hb dX4_oddsOf_99 rfl (lv_at hl 0 rfl) ?_
                          refine va_get (D := D) (ci := 4) (v := .int (zI ((k : Nat) : Int))) (C := RX4) (T := TX4) (N := 32) hx hb hts inT_X4 hown hE.1 hP 0 rfl rfl 3 (by decide) (hts _ qf_X4_89) (fun _ h9 => h9) rfl dX4_oddsOf_100 ?_
                          refine z_irem hx hb ((S2 : Nat) : Int) (by omega) (by rw [hS2]; rfl) dX4_oddsOf_103 ?_
                          refine lv_iload hx hb dX4_oddsOf_104 (lv_at hl 6 rfl) ?_
                          refine lv_aload_n hx hb dX4_oddsOf_106 rfl (lv_at hl 0 rfl) ?_
                          refine va_get (D := D) (ci := 4) (v := .int (zI ((k : Nat) : Int))) (C := RX4) (T := TX4) (N := 32) hx hb hts inT_X4 hown hE.1 hP 0 rfl rfl 3 (by decide) (hts _ qf_X4_89) (fun _ h9 => h9) rfl dX4_oddsOf_107 ?_
                          refine z_idiv hx hb ((P2 : Nat) : Int) (by omega) (by rw [hP2]; rfl) dX4_oddsOf_110 ?_
                          refine zcall_i (wc := [cM h b ((pm : Nat) : Int) ((n : Nat) : Int) ((k : Nat) : Int) ((d : Nat) : Int) ((rr : Nat) : Int) ((hd : Nat) : Int) ((sm : Nat) : Int) kr kq ku s0 s1 s2 s3 s4 s5 hs, cR cI (b 1) 6 g0, cR cI (b 2) 6 g1]) (wr := [cR cI (b 3) 12 g3, cR cI (b 8) 12 u8, cR cI (b 9) 12 v9]) (rest := [.ref (b 9)]) hE hP hD hS hA [0, 1, 2] [3, 4, 5] [3, 4, 5, 0, 1, 2] rfl rfl (by decide) (by decide) (by decide) (fun (u : Unit) => [cM h b ((pm : Nat) : Int) ((n : Nat) : Int) ((k : Nat) : Int) ((d : Nat) : Int) ((rr : Nat) : Int) ((hd : Nat) : Int) ((sm : Nat) : Int) kr kq ku s0 s1 s2 s3 s4 s5 hs, cR cI (b 1) 6 g0, cR cI (b 2) 6 g1, cR cI (b 3) 12 g3, cR cI (b 8) 12 u8, cR cI (b 9) 12 v9]) (fun u => rfl) (fun hPc hDc => zrunV (As := [.int (zI ((S2 : Nat) : Int)), .int (zI ((P2 : Nat) : Int))]) (rest := [.ref (b 9)]) (q0 := 0) (ci := 4) K k_X4_goesOf qm_X4_128 ⟨⟨rfl, rfl⟩, ⟨Nat.le_of_ble_eq_true rfl, Nat.le_of_ble_eq_true rfl⟩⟩ rfl rfl hPc hDc (c_X4_goesOf l D cI h b pm n k d rr hd sm kr kq ku s0 s1 s2 s3 s4 s5 hs g0 g1 κ ν S2 P2 (by first | assumption | omega) (by first | assumption | omega) (by first | assumption | omega) (by first | assumption | omega) (by first | assumption | omega) (by first | assumption | omega) (by first | assumption | omega) (by first | assumption | omega) _) rfl hl.1 rfl (Nat.le_of_ble_eq_true rfl) dX4_oddsOf_111 ⟨Nat.zero_le _, Nat.zero_le _⟩) (by decide) (fun z u H locs hpost hP hD hS => ?_)
                          subst hpost
                          have hP : va_P D cls [cM h b ((pm : Nat) : Int) ((n : Nat) : Int) ((k : Nat) : Int) ((d : Nat) : Int) ((rr : Nat) : Int) ((hd : Nat) : Int) ((sm : Nat) : Int) kr kq ku s0 s1 s2 s3 s4 s5 hs, cR cI (b 1) 6 g0, cR cI (b 2) 6 g1, cR cI (b 3) 12 g3, cR cI (b 8) 12 u8, cR cI (b 9) 12 v9] H := hP
                          have hD : va_D (va_A [cM h b ((pm : Nat) : Int) ((n : Nat) : Int) ((k : Nat) : Int) ((d : Nat) : Int) ((rr : Nat) : Int) ((hd : Nat) : Int) ((sm : Nat) : Int) kr kq ku s0 s1 s2 s3 s4 s5 hs, cR cI (b 1) 6 g0, cR cI (b 2) 6 g1, cR cI (b 3) 12 g3, cR cI (b 8) 12 q8, cR cI (b 9) 12 q9] sz) [cM h b ((pm : Nat) : Int) ((n : Nat) : Int) ((k : Nat) : Int) ((d : Nat) : Int) ((rr : Nat) : Int) ((hd : Nat) : Int) ((sm : Nat) : Int) kr kq ku s0 s1 s2 s3 s4 s5 hs, cR cI (b 1) 6 g0, cR cI (b 2) 6 g1, cR cI (b 3) 12 g3, cR cI (b 8) 12 u8, cR cI (b 9) 12 v9] := hD
                          refine W.eq (g2 := F0 m 114 ls [.int (zI (((mus n κ ν S2 P2) : Nat) : Int)), .ref (b 9)]) rfl ?_
                          refine lv_dup2_11 hx hb dX4_oddsOf_114 rfl rfl ?_
                          refine z_iald hx hb hE hP 5 rfl (mus n κ ν S2 P2) (by omega) (by omega) (by first | decide | omega) ((ac (mus n κ ν) k (wy (mus n κ ν) n k f0 i1) (mus n κ ν S2 P2) t1 : Nat) : Int) (hv9 _ hms) dX4_oddsOf_115 ?_
                          refine lv_aload_n hx hb dX4_oddsOf_116 rfl (lv_at hl 0 rfl) ?_
                          refine va_get (D := D) (ci := 4) (v := .ref (b 8)) (C := RX4) (T := TX4) (N := 32) hx hb hts inT_X4 hown hE.1 hP 0 rfl rfl 19 (by decide) (hts _ qf_X4_34) (fun _ h9 => h9) rfl dX4_oddsOf_117 ?_
                          refine lv_iload hx hb dX4_oddsOf_120 (lv_at hl 6 rfl) ?_
                          refine lv_aload_n hx hb dX4_oddsOf_122 rfl (lv_at hl 0 rfl) ?_
                          refine va_get (D := D) (ci := 4) (v := .int (zI ((k : Nat) : Int))) (C := RX4) (T := TX4) (N := 32) hx hb hts inT_X4 hown hE.1 hP 0 rfl rfl 3 (by decide) (hts _ qf_X4_89) (fun _ h9 => h9) rfl dX4_oddsOf_123 ?_
                          refine z_idiv hx hb ((P2 : Nat) : Int) (by omega) (by rw [hP2]; rfl) dX4_oddsOf_126 ?_
                          refine z_iald hx hb hE hP 4 rfl P2 (by omega) (by omega) (by first | decide | omega) ((wy (mus n κ ν) n k f0 i1 P2 : Nat) : Int) (hu8 P2 hp2) dX4_oddsOf_127 ?_
                          refine z_iadd hx hb ((((ac (mus n κ ν) k (wy (mus n κ ν) n k f0 i1) (mus n κ ν S2 P2) t1) + (wy (mus n κ ν) n k f0 i1 P2)) : Nat) : Int) (by omega) dX4_oddsOf_128 ?_
                          refine z_iast hx hb hE hP hD hS 5 rfl (mus n κ ν S2 P2) (by omega) (by omega) (by first | decide | omega) (zup v9 (mus n κ ν S2 P2) ((((ac (mus n κ ν) k (wy (mus n κ ν) n k f0 i1) (mus n κ ν S2 P2) t1) + (wy (mus n κ ν) n k f0 i1 P2)) : Nat) : Int)) rfl dX4_oddsOf_129 (fun H locs hP hD hS => ?_)
                          have hP : va_P D cls [cM h b ((pm : Nat) : Int) ((n : Nat) : Int) ((k : Nat) : Int) ((d : Nat) : Int) ((rr : Nat) : Int) ((hd : Nat) : Int) ((sm : Nat) : Int) kr kq ku s0 s1 s2 s3 s4 s5 hs, cR cI (b 1) 6 g0, cR cI (b 2) 6 g1, cR cI (b 3) 12 g3, cR cI (b 8) 12 u8, cR cI (b 9) 12 (zup v9 (mus n κ ν S2 P2) ((((ac (mus n κ ν) k (wy (mus n κ ν) n k f0 i1) (mus n κ ν S2 P2) t1) + (wy (mus n κ ν) n k f0 i1 P2)) : Nat) : Int))] H := hP
                          have hD : va_D (va_A [cM h b ((pm : Nat) : Int) ((n : Nat) : Int) ((k : Nat) : Int) ((d : Nat) : Int) ((rr : Nat) : Int) ((hd : Nat) : Int) ((sm : Nat) : Int) kr kq ku s0 s1 s2 s3 s4 s5 hs, cR cI (b 1) 6 g0, cR cI (b 2) 6 g1, cR cI (b 3) 12 g3, cR cI (b 8) 12 q8, cR cI (b 9) 12 q9] sz) [cM h b ((pm : Nat) : Int) ((n : Nat) : Int) ((k : Nat) : Int) ((d : Nat) : Int) ((rr : Nat) : Int) ((hd : Nat) : Int) ((sm : Nat) : Int) kr kq ku s0 s1 s2 s3 s4 s5 hs, cR cI (b 1) 6 g0, cR cI (b 2) 6 g1, cR cI (b 3) 12 g3, cR cI (b 8) 12 u8, cR cI (b 9) 12 (zup v9 (mus n κ ν S2 P2) ((((ac (mus n κ ν) k (wy (mus n κ ν) n k f0 i1) (mus n κ ν S2 P2) t1) + (wy (mus n κ ν) n k f0 i1 P2)) : Nat) : Int))] := hD
                          have hs1 : ∀ j, j < n → zup v9 (mus n κ ν S2 P2) (((ac (mus n κ ν) k (wy (mus n κ ν) n k f0 i1) (mus n κ ν S2 P2) t1 + wy (mus n κ ν) n k f0 i1 P2) : Nat) : Int) j = ((ac (mus n κ ν) k (wy (mus n κ ν) n k f0 i1) j (t1 + 1) : Nat) : Int) := by
                            intro j hj
                            rw [ac, ← hP2, ← hS2]
                            unfold zup
                            by_cases h9 : j = mus n κ ν S2 P2
                            · rw [if_pos h9, if_pos h9.symm, h9]
                            · rw [if_neg h9, if_neg (fun h8 => h9 h8.symm), hv9 j hj]; rfl
                          refine z_iinc (k := 6) (lv' := [(6, .int (zI (((t1 + 1) : Nat) : Int))), (0, .ref h), (1, .int (zI ((x1 : Nat) : Int))), (2, .int (zI ((p1 : Nat) : Int))), (3, .int (zI ((m0 : Nat) : Int))), (4, .int (zI ((w0 : Nat) : Int))), (5, .int (zI ((i1 : Nat) : Int)))]) hx hb (((t1 + 1) : Nat) : Int) (by omega) dX4_oddsOf_130 hl rfl (by decide) rfl (fun ls hl => ?_)
                          refine lv_goto (tgt := 78) hx hb dX4_oddsOf_133 (by decide) ?_
                          exact ih_78 (t1 + 1) (zup v9 (mus n κ ν S2 P2) ((((ac (mus n κ ν) k (wy (mus n κ ν) n k f0 i1) (mus n κ ν S2 P2) t1) + (wy (mus n κ ν) n k f0 i1 P2)) : Nat) : Int)) (by omega) (by omega) (by exact hs1) _ _ _ hP hD hS (lv_sub hl [1, 2, 3, 4, 5, 6, 0] rfl)
                    exact cut_78 (n * k - 0 + 1) 0 w9 (Nat.lt_succ_self _) (by omega) (by intro j hj; exact hw9 j (by omega)) _ _ _ hP hD hS (lv_sub hl [1, 2, 3, 4, 5, 6, 0] rfl)
                  · refine lv_aload_n hx hb dX4_oddsOf_61 rfl (lv_at hl 0 rfl) ?_
                    refine va_get (D := D) (ci := 4) (v := .ref (b 9)) (C := RX4) (T := TX4) (N := 32) hx hb hts inT_X4 hown hE.1 hP 0 rfl rfl 20 (by decide) (hts _ qf_X4_37) (fun _ h9 => h9) rfl dX4_oddsOf_62 ?_
                    refine lv_iload hx hb dX4_oddsOf_65 (lv_at hl 6 rfl) ?_
                    refine lv_iconst (v := zI 0) hx hb dX4_oddsOf_67 rfl ?_
                    refine z_iast hx hb hE hP hD hS 5 rfl i2 (by omega) (by omega) (by first | decide | omega) (zup w9 i2 0) rfl dX4_oddsOf_68 (fun H locs hP hD hS => ?_)
                    have hP : va_P D cls [cM h b ((pm : Nat) : Int) ((n : Nat) : Int) ((k : Nat) : Int) ((d : Nat) : Int) ((rr : Nat) : Int) ((hd : Nat) : Int) ((sm : Nat) : Int) kr kq ku s0 s1 s2 s3 s4 s5 hs, cR cI (b 1) 6 g0, cR cI (b 2) 6 g1, cR cI (b 3) 12 g3, cR cI (b 8) 12 u8, cR cI (b 9) 12 (zup w9 i2 0)] H := hP
                    have hD : va_D (va_A [cM h b ((pm : Nat) : Int) ((n : Nat) : Int) ((k : Nat) : Int) ((d : Nat) : Int) ((rr : Nat) : Int) ((hd : Nat) : Int) ((sm : Nat) : Int) kr kq ku s0 s1 s2 s3 s4 s5 hs, cR cI (b 1) 6 g0, cR cI (b 2) 6 g1, cR cI (b 3) 12 g3, cR cI (b 8) 12 q8, cR cI (b 9) 12 q9] sz) [cM h b ((pm : Nat) : Int) ((n : Nat) : Int) ((k : Nat) : Int) ((d : Nat) : Int) ((rr : Nat) : Int) ((hd : Nat) : Int) ((sm : Nat) : Int) kr kq ku s0 s1 s2 s3 s4 s5 hs, cR cI (b 1) 6 g0, cR cI (b 2) 6 g1, cR cI (b 3) 12 g3, cR cI (b 8) 12 u8, cR cI (b 9) 12 (zup w9 i2 0)] := hD
                    refine z_iinc (k := 6) (lv' := [(6, .int (zI (((i2 + 1) : Nat) : Int))), (0, .ref h), (1, .int (zI ((x1 : Nat) : Int))), (2, .int (zI ((p1 : Nat) : Int))), (3, .int (zI ((m0 : Nat) : Int))), (4, .int (zI ((w0 : Nat) : Int))), (5, .int (zI ((i1 : Nat) : Int)))]) hx hb (((i2 + 1) : Nat) : Int) (by omega) dX4_oddsOf_69 hl rfl (by decide) rfl (fun ls hl => ?_)
                    refine lv_goto (tgt := 52) hx hb dX4_oddsOf_72 (by decide) ?_
                    exact ih_52 (i2 + 1) (zup w9 i2 0) (by omega) (by omega) (by exact zup_lt (A := fun _ => 0) hw9 rfl) _ _ _ hP hD hS (lv_sub hl [1, 2, 3, 4, 5, 6, 0] rfl)
              exact cut_52 (n - 0 + 1) 0 u9 (Nat.lt_succ_self _) (by omega) (by intro j hj; omega) _ _ _ hP hD hS (lv_sub hl [1, 2, 3, 4, 5, 6, 0] rfl)
        exact cut_43 (m0 - 0 + 1) 0 r8 q9 (Nat.lt_succ_self _) (by omega) (by intro j hj; exact hr8 j (by omega)) _ _ _ hP hD hS (lv_sub hl [1, 2, 3, 4, 5, 0] rfl)
      · refine lv_aload_n hx hb dX4_oddsOf_12 rfl (lv_at hl 0 rfl) ?_
        refine va_get (D := D) (ci := 4) (v := .ref (b 8)) (C := RX4) (T := TX4) (N := 32) hx hb hts inT_X4 hown hE.1 hP 0 rfl rfl 19 (by decide) (hts _ qf_X4_34) (fun _ h9 => h9) rfl dX4_oddsOf_13 ?_
        refine lv_iload hx hb dX4_oddsOf_16 (lv_at hl 5 rfl) ?_
        refine lv_iload hx hb dX4_oddsOf_18 (lv_at hl 5 rfl) ?_
        refine lv_aload_n hx hb dX4_oddsOf_20 rfl (lv_at hl 0 rfl) ?_
        refine lv_iload_n hx hb dX4_oddsOf_21 rfl (lv_at hl 1 rfl) ?_
        refine zcall_i (wc := [cM h b ((pm : Nat) : Int) ((n : Nat) : Int) ((k : Nat) : Int) ((d : Nat) : Int) ((rr : Nat) : Int) ((hd : Nat) : Int) ((sm : Nat) : Int) kr kq ku s0 s1 s2 s3 s4 s5 hs, cR cI (b 3) 12 g3]) (wr := [cR cI (b 1) 6 g0, cR cI (b 2) 6 g1, cR cI (b 8) 12 r8, cR cI (b 9) 12 q9]) (rest := [.int (zI ((i : Nat) : Int)), .int (zI ((i : Nat) : Int)), .ref (b 8)]) hE hP hD hS hA [0, 3] [1, 2, 4, 5] [4, 0, 1, 5, 2, 3] rfl rfl (by decide) (by decide) (by decide) (fun (u : Unit) => [cM h b ((pm : Nat) : Int) ((n : Nat) : Int) ((k : Nat) : Int) ((d : Nat) : Int) ((rr : Nat) : Int) ((hd : Nat) : Int) ((sm : Nat) : Int) kr kq ku s0 s1 s2 s3 s4 s5 hs, cR cI (b 1) 6 g0, cR cI (b 2) 6 g1, cR cI (b 3) 12 g3, cR cI (b 8) 12 r8, cR cI (b 9) 12 q9]) (fun u => rfl) (fun hPc hDc => zrunV (As := [.int (zI ((x1 : Nat) : Int))]) (rest := [.int (zI ((i : Nat) : Int)), .int (zI ((i : Nat) : Int)), .ref (b 8)]) (q0 := 0) (ci := 4) K k_X4_placeOf qm_X4_203 ⟨⟨rfl, rfl⟩, ⟨Nat.le_of_ble_eq_true rfl, Nat.le_of_ble_eq_true rfl⟩⟩ rfl rfl hPc hDc (c_X4_placeOf l D cI h b pm n k d rr hd sm kr kq ku s0 s1 s2 s3 s4 s5 hs g3 π x1 (by first | assumption | omega) (by first | assumption | omega) (by first | assumption | omega) (by first | assumption | omega) (by first | assumption | omega) _) rfl hl.1 rfl (Nat.le_of_ble_eq_true rfl) dX4_oddsOf_22 ⟨Nat.zero_le _, Nat.zero_le _⟩) (by decide) (fun z u H locs hpost hP hD hS => ?_)
        subst hpost
        have hP : va_P D cls [cM h b ((pm : Nat) : Int) ((n : Nat) : Int) ((k : Nat) : Int) ((d : Nat) : Int) ((rr : Nat) : Int) ((hd : Nat) : Int) ((sm : Nat) : Int) kr kq ku s0 s1 s2 s3 s4 s5 hs, cR cI (b 1) 6 g0, cR cI (b 2) 6 g1, cR cI (b 3) 12 g3, cR cI (b 8) 12 r8, cR cI (b 9) 12 q9] H := hP
        have hD : va_D (va_A [cM h b ((pm : Nat) : Int) ((n : Nat) : Int) ((k : Nat) : Int) ((d : Nat) : Int) ((rr : Nat) : Int) ((hd : Nat) : Int) ((sm : Nat) : Int) kr kq ku s0 s1 s2 s3 s4 s5 hs, cR cI (b 1) 6 g0, cR cI (b 2) 6 g1, cR cI (b 3) 12 g3, cR cI (b 8) 12 q8, cR cI (b 9) 12 q9] sz) [cM h b ((pm : Nat) : Int) ((n : Nat) : Int) ((k : Nat) : Int) ((d : Nat) : Int) ((rr : Nat) : Int) ((hd : Nat) : Int) ((sm : Nat) : Int) kr kq ku s0 s1 s2 s3 s4 s5 hs, cR cI (b 1) 6 g0, cR cI (b 2) 6 g1, cR cI (b 3) 12 g3, cR cI (b 8) 12 r8, cR cI (b 9) 12 q9] := hD
        refine W.eq (g2 := F0 m 25 ls [.int (zI (((plo π n x1) : Nat) : Int)), .int (zI ((i : Nat) : Int)), .int (zI ((i : Nat) : Int)), .ref (b 8)]) rfl ?_
        refine W.eq (g2 := F0 m 25 ls [.int (zI ((f0 : Nat) : Int)), .int (zI ((i : Nat) : Int)), .int (zI ((i : Nat) : Int)), .ref (b 8)]) (by rw [show ((((plo π n x1) : Nat) : Int) : Int) = ((f0 : Nat) : Int) from by rw [hf0]]) ?_
        refine z_icmp_ne (tgt := 32) hx hb (by omega) dX4_oddsOf_25 (by decide) (fun c_25 => ?_) (fun c_25 => ?_)
        · have hv2 : (0 : Int) = ((wy (mus n κ ν) n k f0 0 i : Nat) : Int) := by rw [wy, if_neg (by omega)]; rfl
          refine lv_iconst (v := zI 0) hx hb dX4_oddsOf_32 rfl ?_
          refine z_iast hx hb hE hP hD hS 4 rfl i (by omega) (by omega) (by first | decide | omega) (zup r8 i 0) rfl dX4_oddsOf_33 (fun H locs hP hD hS => ?_)
          have hP : va_P D cls [cM h b ((pm : Nat) : Int) ((n : Nat) : Int) ((k : Nat) : Int) ((d : Nat) : Int) ((rr : Nat) : Int) ((hd : Nat) : Int) ((sm : Nat) : Int) kr kq ku s0 s1 s2 s3 s4 s5 hs, cR cI (b 1) 6 g0, cR cI (b 2) 6 g1, cR cI (b 3) 12 g3, cR cI (b 8) 12 (zup r8 i 0), cR cI (b 9) 12 q9] H := hP
          have hD : va_D (va_A [cM h b ((pm : Nat) : Int) ((n : Nat) : Int) ((k : Nat) : Int) ((d : Nat) : Int) ((rr : Nat) : Int) ((hd : Nat) : Int) ((sm : Nat) : Int) kr kq ku s0 s1 s2 s3 s4 s5 hs, cR cI (b 1) 6 g0, cR cI (b 2) 6 g1, cR cI (b 3) 12 g3, cR cI (b 8) 12 q8, cR cI (b 9) 12 q9] sz) [cM h b ((pm : Nat) : Int) ((n : Nat) : Int) ((k : Nat) : Int) ((d : Nat) : Int) ((rr : Nat) : Int) ((hd : Nat) : Int) ((sm : Nat) : Int) kr kq ku s0 s1 s2 s3 s4 s5 hs, cR cI (b 1) 6 g0, cR cI (b 2) 6 g1, cR cI (b 3) 12 g3, cR cI (b 8) 12 (zup r8 i 0), cR cI (b 9) 12 q9] := hD
          refine z_iinc (k := 5) (lv' := [(5, .int (zI (((i + 1) : Nat) : Int))), (0, .ref h), (1, .int (zI ((x1 : Nat) : Int))), (2, .int (zI ((p1 : Nat) : Int))), (3, .int (zI ((m0 : Nat) : Int))), (4, .int (zI ((w0 : Nat) : Int)))]) hx hb (((i + 1) : Nat) : Int) (by omega) dX4_oddsOf_34 hl rfl (by decide) rfl (fun ls hl => ?_)
          refine lv_goto (tgt := 3) hx hb dX4_oddsOf_37 (by decide) ?_
          exact ih_3 (i + 1) (zup r8 i 0) (by omega) (by omega) (by first | exact zup_lt (A := fun j => ((wy (mus n κ ν) n k f0 0 j : Nat) : Int)) hr8 hv1 | exact zup_lt (A := fun j => ((wy (mus n κ ν) n k f0 0 j : Nat) : Int)) hr8 hv2) _ _ _ hP hD hS (lv_sub hl [1, 2, 3, 4, 5, 0] rfl)
        · have hv1 : (1 : Int) = ((wy (mus n κ ν) n k f0 0 i : Nat) : Int) := by rw [wy, if_pos (by omega)]; rfl
          refine lv_iconst (v := zI 1) hx hb dX4_oddsOf_28 rfl ?_
          refine lv_goto (tgt := 33) hx hb dX4_oddsOf_29 (by decide) ?_
          refine z_iast hx hb hE hP hD hS 4 rfl i (by omega) (by omega) (by first | decide | omega) (zup r8 i 1) rfl dX4_oddsOf_33 (fun H locs hP hD hS => ?_)
          have hP : va_P D cls [cM h b ((pm : Nat) : Int) ((n : Nat) : Int) ((k : Nat) : Int) ((d : Nat) : Int) ((rr : Nat) : Int) ((hd : Nat) : Int) ((sm : Nat) : Int) kr kq ku s0 s1 s2 s3 s4 s5 hs, cR cI (b 1) 6 g0, cR cI (b 2) 6 g1, cR cI (b 3) 12 g3, cR cI (b 8) 12 (zup r8 i 1), cR cI (b 9) 12 q9] H := hP
          have hD : va_D (va_A [cM h b ((pm : Nat) : Int) ((n : Nat) : Int) ((k : Nat) : Int) ((d : Nat) : Int) ((rr : Nat) : Int) ((hd : Nat) : Int) ((sm : Nat) : Int) kr kq ku s0 s1 s2 s3 s4 s5 hs, cR cI (b 1) 6 g0, cR cI (b 2) 6 g1, cR cI (b 3) 12 g3, cR cI (b 8) 12 q8, cR cI (b 9) 12 q9] sz) [cM h b ((pm : Nat) : Int) ((n : Nat) : Int) ((k : Nat) : Int) ((d : Nat) : Int) ((rr : Nat) : Int) ((hd : Nat) : Int) ((sm : Nat) : Int) kr kq ku s0 s1 s2 s3 s4 s5 hs, cR cI (b 1) 6 g0, cR cI (b 2) 6 g1, cR cI (b 3) 12 g3, cR cI (b 8) 12 (zup r8 i 1), cR cI (b 9) 12 q9] := hD
          refine z_iinc (k := 5) (lv' := [(5, .int (zI (((i + 1) : Nat) : Int))), (0, .ref h), (1, .int (zI ((x1 : Nat) : Int))), (2, .int (zI ((p1 : Nat) : Int))), (3, .int (zI ((m0 : Nat) : Int))), (4, .int (zI ((w0 : Nat) : Int)))]) hx hb (((i + 1) : Nat) : Int) (by omega) dX4_oddsOf_34 hl rfl (by decide) rfl (fun ls hl => ?_)
          refine lv_goto (tgt := 3) hx hb dX4_oddsOf_37 (by decide) ?_
          exact ih_3 (i + 1) (zup r8 i 1) (by omega) (by omega) (by first | exact zup_lt (A := fun j => ((wy (mus n κ ν) n k f0 0 j : Nat) : Int)) hr8 hv1 | exact zup_lt (A := fun j => ((wy (mus n κ ν) n k f0 0 j : Nat) : Int)) hr8 hv2) _ _ _ hP hD hS (lv_sub hl [1, 2, 3, 4, 5, 0] rfl)
  exact cut_3 (n - 0 + 1) 0 q8 (Nat.lt_succ_self _) (by omega) (by intro j hj; omega) _ _ _ hP hD hS (lv_sub hl [1, 2, 3, 4, 5, 0] rfl)
set_option maxHeartbeats 4000000 in
set_option maxRecDepth 100000 in
theorem c_X4_draw (l : Launch) (D : va_G) (cI : ClassId) (h : Nat) (b : Nat → Nat) (pm n k d rr hd sm : Nat) (kr kq ku s0 s1 s2 s3 s4 hs : Int) (z0 c0 : Nat) (hz0 : z0 < 2147483648) (hc0 : 1 ≤ c0 ∧ c0 ≤ 6) : zMi l yX4_draw cX4_draw 2 (some .int) ({ frames := 0, cells := 0, slots := 0, locals := 0 }) D cI [.ref h, .int (zI ((c0 : Nat) : Int))] [cM h b ((pm : Nat) : Int) ((n : Nat) : Int) ((k : Nat) : Int) ((d : Nat) : Int) ((rr : Nat) : Int) ((hd : Nat) : Int) ((sm : Nat) : Int) kr kq ku s0 s1 s2 s3 s4 ((z0 : Nat) : Int) hs] (fun (z : Int) (u : Unit) => z = ((((1103515245 * z0 + 12345) % 2147483648 / 65536 % c0) : Nat) : Int)) (fun (u : Unit) => [cM h b ((pm : Nat) : Int) ((n : Nat) : Int) ((k : Nat) : Int) ((d : Nat) : Int) ((rr : Nat) : Int) ((hd : Nat) : Int) ((sm : Nat) : Int) kr kq ku s0 s1 s2 s3 s4 ((((1103515245 * z0 + 12345) % 2147483648) : Nat) : Int) hs]) := by
  intro sz
  refine zstart rfl (by decide) (Nat.le_of_ble_eq_true rfl) ?_
  intro p e s m below meth c ls K hnm hsz hP hD hS hl
  generalize hargs : ([.ref h, .int (zI ((c0 : Nat) : Int))] : List Value).toArray = args at K ⊢
  generalize hQf : MQ below _ args s _ _ _ = Qf
  have K : zK p s m args meth c cX4_draw 2 RX4 (some .int) D cI := K
  obtain ⟨hx, hb, hml, hown, hts, hE, -, -⟩ := id K
  have hA := zhA (ws0 := [cM h b ((pm : Nat) : Int) ((n : Nat) : Int) ((k : Nat) : Int) ((d : Nat) : Int) ((rr : Nat) : Int) ((hd : Nat) : Int) ((sm : Nat) : Int) kr kq ku s0 s1 s2 s3 s4 ((z0 : Nat) : Int) hs]) hsz
  have hl : lv_has ls 2 [(0, .ref h), (1, .int (zI ((c0 : Nat) : Int)))] := hl
  refine lv_aload_n hx hb dX4_draw_0 rfl (lv_at hl 0 rfl) ?_
  refine lv_ldc2 (v := zL 1103515245) hx hb hown (hts _ qk_X4_231) dX4_draw_1 ?_
  refine lv_aload_n hx hb dX4_draw_4 rfl (lv_at hl 0 rfl) ?_
  refine va_get (D := D) (ci := 4) (v := .int (zI ((z0 : Nat) : Int))) (C := RX4) (T := TX4) (N := 32) hx hb hts inT_X4 hown hE.1 hP 0 rfl rfl 23 (by decide) (hts _ qf_X4_233) (fun _ h9 => h9) rfl dX4_draw_5 ?_
  refine z_i2l hx hb (by omega) dX4_draw_8 ?_
  refine z_lmul hx hb (1103515245 * ((z0 : Nat) : Int)) rfl dX4_draw_9 ?_
  refine lv_ldc2 (v := zL 12345) hx hb hown (hts _ qk_X4_236) dX4_draw_10 ?_
  refine z_ladd hx hb ((1103515245 * ((z0 : Nat) : Int)) + 12345) rfl dX4_draw_13 ?_
  refine lv_ldc2 (v := zL 2147483647) hx hb hown (hts _ qk_X4_238) dX4_draw_14 ?_
  refine z_land hx hb (1103515245 * z0 + 12345) (by omega) (by rfl) dX4_draw_17 ?_
  refine z_l2i hx hb ((1103515245 * z0 + 12345) % 2147483648) (by rfl) dX4_draw_18 ?_
  refine va_put (D := D) (ci := 4) (v := .int (zI ((((1103515245 * z0 + 12345) % 2147483648) : Nat) : Int))) (ty := .int) (C := RX4) (T := TX4) (N := 32) hx hb hts inT_X4 tyX4 tyX4_ok nmX4 hown hE.1 hP hD hS 0 rfl rfl 23 (by decide) (hts _ qf_X4_233) (fun _ h9 => h9) rfl (by decide +kernel) rfl rfl (Nat.le_of_ble_eq_true rfl) dX4_draw_19 (fun H locs hP hD hS => ?_)
  have hP : va_P D cls [cM h b ((pm : Nat) : Int) ((n : Nat) : Int) ((k : Nat) : Int) ((d : Nat) : Int) ((rr : Nat) : Int) ((hd : Nat) : Int) ((sm : Nat) : Int) kr kq ku s0 s1 s2 s3 s4 ((((1103515245 * z0 + 12345) % 2147483648) : Nat) : Int) hs] H := hP
  have hD : va_D (va_A [cM h b ((pm : Nat) : Int) ((n : Nat) : Int) ((k : Nat) : Int) ((d : Nat) : Int) ((rr : Nat) : Int) ((hd : Nat) : Int) ((sm : Nat) : Int) kr kq ku s0 s1 s2 s3 s4 ((z0 : Nat) : Int) hs] sz) [cM h b ((pm : Nat) : Int) ((n : Nat) : Int) ((k : Nat) : Int) ((d : Nat) : Int) ((rr : Nat) : Int) ((hd : Nat) : Int) ((sm : Nat) : Int) kr kq ku s0 s1 s2 s3 s4 ((((1103515245 * z0 + 12345) % 2147483648) : Nat) : Int) hs] := hD
  refine lv_aload_n hx hb dX4_draw_22 rfl (lv_at hl 0 rfl) ?_
  refine va_get (D := D) (ci := 4) (v := .int (zI ((((1103515245 * z0 + 12345) % 2147483648) : Nat) : Int))) (C := RX4) (T := TX4) (N := 32) hx hb hts inT_X4 hown hE.1 hP 0 rfl rfl 23 (by decide) (hts _ qf_X4_233) (fun _ h9 => h9) rfl dX4_draw_23 ?_
  refine lv_ldc (v := zI 65536) hx hb hown (hts _ qk_X4_240) dX4_draw_26 ?_
  refine z_idiv hx hb (((((1103515245 * z0 + 12345) % 2147483648) / 65536) : Nat) : Int) (by omega) rfl dX4_draw_28 ?_
  refine lv_iload_n hx hb dX4_draw_29 rfl (lv_at hl 1 rfl) ?_
  refine z_irem hx hb ((((((1103515245 * z0 + 12345) % 2147483648) / 65536) % c0) : Nat) : Int) (by omega) rfl dX4_draw_30 ?_
  rw [← hQf]
  exact z_iret K hS () (by rfl) hP hD dX4_draw_31
set_option maxHeartbeats 4000000 in
set_option maxRecDepth 100000 in
theorem c_X4_crossed (l : Launch) (D : va_G) (cI : ClassId) (h : Nat) (b : Nat → Nat) (pm n k d rr hd sm : Nat) (kr kq ku s0 s1 s2 s3 s4 s5 hs : Int) (g3 : Nat → Int) (π : Nat → Nat) (hn : n ≤ 12) (hg3 : ∀ j, j < n → g3 j = ((π j : Nat) : Int)) (hπ : ∀ j, j < n → π j < n) (hπi : inj π n) : zMi l yX4_crossed cX4_crossed 5 (some .int) ({ frames := 0, cells := 0, slots := 0, locals := 0 }) D cI [.ref h] [cM h b ((pm : Nat) : Int) ((n : Nat) : Int) ((k : Nat) : Int) ((d : Nat) : Int) ((rr : Nat) : Int) ((hd : Nat) : Int) ((sm : Nat) : Int) kr kq ku s0 s1 s2 s3 s4 s5 hs, cR cI (b 3) 12 g3] (fun (z : Int) (u : Unit) => z = (((fb_sm (fun b => fb_ct (fun a => decide (π b < π a)) b) n) : Nat) : Int)) (fun (u : Unit) => [cM h b ((pm : Nat) : Int) ((n : Nat) : Int) ((k : Nat) : Int) ((d : Nat) : Int) ((rr : Nat) : Int) ((hd : Nat) : Int) ((sm : Nat) : Int) kr kq ku s0 s1 s2 s3 s4 s5 hs, cR cI (b 3) 12 g3]) := by
  intro sz
  refine zstart rfl (by decide) (Nat.le_of_ble_eq_true rfl) ?_
  intro p e s m below meth c ls K hnm hsz hP hD hS hl
  generalize hargs : ([.ref h] : List Value).toArray = args at K ⊢
  generalize hQf : MQ below _ args s _ _ _ = Qf
  have K : zK p s m args meth c cX4_crossed 5 RX4 (some .int) D cI := K
  obtain ⟨hx, hb, hml, hown, hts, hE, -, -⟩ := id K
  have hA := zhA (ws0 := [cM h b ((pm : Nat) : Int) ((n : Nat) : Int) ((k : Nat) : Int) ((d : Nat) : Int) ((rr : Nat) : Int) ((hd : Nat) : Int) ((sm : Nat) : Int) kr kq ku s0 s1 s2 s3 s4 s5 hs, cR cI (b 3) 12 g3]) hsz
  have hl : lv_has ls 5 [(0, .ref h)] := hl
  have hnn : n * n ≤ 12 * 12 := Nat.mul_le_mul hn hn
  refine lv_iconst (v := zI 0) hx hb dX4_crossed_0 rfl ?_
  refine lv_istore_n (lv' := [(1, .int (zI 0)), (0, .ref h)]) hx hb dX4_crossed_1 rfl hl (by decide) rfl (fun ls hl => ?_)
  refine lv_iconst (v := zI 0) hx hb dX4_crossed_2 rfl ?_
  refine lv_istore_n (lv' := [(2, .int (zI 0)), (1, .int (zI 0)), (0, .ref h)]) hx hb dX4_crossed_3 rfl hl (by decide) rfl (fun ls hl => ?_)
  have cut_4 : ∀ (N_4 : Nat), ∀ (t1 y : Nat), n * n - t1 < N_4 → (t1 ≤ n * n) → (y = fb_sm (fun t => if t / n < t % n ∧ π (t % n) < π (t / n) then 1 else 0) t1) → ∀ (H : Heap) (locs : List Loc) (ls : Array Slot), va_P D cls [cM h b ((pm : Nat) : Int) ((n : Nat) : Int) ((k : Nat) : Int) ((d : Nat) : Int) ((rr : Nat) : Int) ((hd : Nat) : Int) ((sm : Nat) : Int) kr kq ku s0 s1 s2 s3 s4 s5 hs, cR cI (b 3) 12 g3] H → va_D (va_A [cM h b ((pm : Nat) : Int) ((n : Nat) : Int) ((k : Nat) : Int) ((d : Nat) : Int) ((rr : Nat) : Int) ((hd : Nat) : Int) ((sm : Nat) : Int) kr kq ku s0 s1 s2 s3 s4 s5 hs, cR cI (b 3) 12 g3] sz) [cM h b ((pm : Nat) : Int) ((n : Nat) : Int) ((k : Nat) : Int) ((d : Nat) : Int) ((rr : Nat) : Int) ((hd : Nat) : Int) ((sm : Nat) : Int) kr kq ku s0 s1 s2 s3 s4 s5 hs, cR cI (b 3) 12 g3] → va_S (va_A [cM h b ((pm : Nat) : Int) ((n : Nat) : Int) ((k : Nat) : Int) ((d : Nat) : Int) ((rr : Nat) : Int) ((hd : Nat) : Int) ((sm : Nat) : Int) kr kq ku s0 s1 s2 s3 s4 s5 hs, cR cI (b 3) 12 g3] sz) s.heap H locs → lv_has ls 5 [(0, .ref h), (1, .int (zI ((y : Nat) : Int))), (2, .int (zI ((t1 : Nat) : Int)))] → W p l e ({ frames := 0, cells := 0, slots := 0, locals := 0 }) s m args below meth c H locs 0 0 Qf (F0 m 4 ls []) := by
    intro N_4
    induction N_4 with
    | zero => intro t1 y hm_4; exact absurd hm_4 (Nat.not_lt_zero _)
    | succ N_4 ih_4 =>
      intro t1 y hm_4 ht1 hy H locs ls hP hD hS hl
      refine lv_iload_n hx hb dX4_crossed_4 rfl (lv_at hl 2 rfl) ?_
      refine lv_aload_n hx hb dX4_crossed_5 rfl (lv_at hl 0 rfl) ?_
      refine va_get (D := D) (ci := 4) (v := .int (zI ((n : Nat) : Int))) (C := RX4) (T := TX4) (N := 32) hx hb hts inT_X4 hown hE.1 hP 0 rfl rfl 2 (by decide) (hts _ qf_X4_86) (fun _ h9 => h9) rfl dX4_crossed_6 ?_
      refine lv_aload_n hx hb dX4_crossed_9 rfl (lv_at hl 0 rfl) ?_
      refine va_get (D := D) (ci := 4) (v := .int (zI ((n : Nat) : Int))) (C := RX4) (T := TX4) (N := 32) hx hb hts inT_X4 hown hE.1 hP 0 rfl rfl 2 (by decide) (hts _ qf_X4_86) (fun _ h9 => h9) rfl dX4_crossed_10 ?_
      refine z_imul hx hb (((n * n) : Nat) : Int) (by first | omega | exact (Int.natCast_mul _ _).symm) dX4_crossed_13 ?_
      refine z_icmp_ge (tgt := 68) hx hb (by omega) dX4_crossed_14 (by decide) (fun c_14 => ?_) (fun c_14 => ?_)
      · refine lv_iload_n hx hb dX4_crossed_68 rfl (lv_at hl 1 rfl) ?_
        rw [← hQf]
        exact z_iret K hS () (by rw [hy, show t1 = n * n by omega]; rcases Nat.eq_zero_or_pos n with h9 | h9; rw [h9]; rfl; rw [cr_flat π n h9]) hP hD dX4_crossed_69
      · have hn0 : 0 < n := by rcases Nat.eq_zero_or_pos n with h9 | h9; rw [h9] at c_14; omega; exact h9
        have hp2 : t1 / n < n := div_lt_of (by omega)
        have hs2k : t1 % n < n := Nat.mod_lt _ (by omega)
        have hz9 : (0 : Int) ≤ ((t1 / n : Nat) : Int) := Int.natCast_nonneg _
        refine lv_iload_n hx hb dX4_crossed_17 rfl (lv_at hl 2 rfl) ?_
        refine lv_aload_n hx hb dX4_crossed_18 rfl (lv_at hl 0 rfl) ?_
        refine va_get (D := D) (ci := 4) (v := .int (zI ((n : Nat) : Int))) (C := RX4) (T := TX4) (N := 32) hx hb hts inT_X4 hown hE.1 hP 0 rfl rfl 2 (by decide) (hts _ qf_X4_86) (fun _ h9 => h9) rfl dX4_crossed_19 ?_
        refine z_idiv hx hb (((t1 / n) : Nat) : Int) (by omega) rfl dX4_crossed_22 ?_
        refine lv_istore_n (lv' := [(3, .int (zI (((t1 / n) : Nat) : Int))), (0, .ref h), (1, .int (zI ((y : Nat) : Int))), (2, .int (zI ((t1 : Nat) : Int)))]) hx hb dX4_crossed_23 rfl hl (by decide) rfl (fun ls hl => ?_)
        refine lv_iload_n hx hb dX4_crossed_24 rfl (lv_at hl 3 rfl) ?_
        refine lv_aload_n hx hb dX4_crossed_25 rfl (lv_at hl 1 rfl) ?_
        refine va_get (D := D) (ci := 4) (v := .int (zI ((n : Nat) : Int))) (C := RX4) (T := TX4) (N := 32) hx hb hts inT_X4 hown hE.1 hP 0 rfl rfl 2 (by decide) (hts _ qf_X4_86) (fun _ h9 => h9) rfl dX4_crossed_26 ?_
        refine z_irem hx hb (((t1 % n) : Nat) : Int) (by omega) rfl dX4_crossed_29 ?_
        refine lv_istore (lv' := [(4, .int (zI (((t1 % n) : Nat) : Int))), (3, .int (zI (((t1 / n) : Nat) : Int))), (0, .ref h), (1, .int (zI ((y : Nat) : Int))), (2, .int (zI ((t1 : Nat) : Int)))]) hx hb dX4_crossed_30 hl (by decide) rfl (fun ls hl => ?_)
        refine lv_iload_n hx hb dX4_crossed_32 rfl (lv_at hl 3 rfl) ?_
        refine lv_iload_n hx hb dX4_crossed_33 rfl (lv_at hl 1 rfl) ?_
        refine lv_iload hx hb dX4_crossed_34 (lv_at hl 0 rfl) ?_
        refine z_icmp_ge (tgt := 59) hx hb (by omega) dX4_crossed_36 (by decide) (fun c_36 => ?_) (fun c_36 => ?_)
        · have hy1 : y = fb_sm (fun t => if t / n < t % n ∧ π (t % n) < π (t / n) then 1 else 0) (t1 + 1) := by rw [fb_sm_succ, if_neg (by omega)]; exact hy
          refine lv_iconst (v := zI 0) hx hb dX4_crossed_59 rfl ?_
          refine z_iadd hx hb ((y : Nat) : Int) (by omega) dX4_crossed_60 ?_
          refine lv_istore_n (lv' := [(1, .int (zI ((y : Nat) : Int))), (4, .int (zI (((t1 % n) : Nat) : Int))), (3, .int (zI (((t1 / n) : Nat) : Int))), (0, .ref h), (2, .int (zI ((t1 : Nat) : Int)))]) hx hb dX4_crossed_61 rfl hl (by decide) rfl (fun ls hl => ?_)
          refine z_iinc (k := 4) (lv' := [(2, .int (zI (((t1 + 1) : Nat) : Int))), (1, .int (zI ((y : Nat) : Int))), (4, .int (zI (((t1 % n) : Nat) : Int))), (3, .int (zI (((t1 / n) : Nat) : Int))), (0, .ref h)]) hx hb (((t1 + 1) : Nat) : Int) (by omega) dX4_crossed_62 hl rfl (by decide) rfl (fun ls hl => ?_)
          refine lv_goto (tgt := 4) hx hb dX4_crossed_65 (by decide) ?_
          exact ih_4 (t1 + 1) y (by omega) (by omega) (by first | exact hy1 | exact hy2 | exact hy3) _ _ _ hP hD hS (lv_sub hl [4, 1, 0] rfl)
        · refine lv_aload_n hx hb dX4_crossed_39 rfl (lv_at hl 2 rfl) ?_
          refine va_get (D := D) (ci := 4) (v := .ref (b 3)) (C := RX4) (T := TX4) (N := 32) hx hb hts inT_X4 hown hE.1 hP 0 rfl rfl 8 (by decide) (hts _ qf_X4_19) (fun _ h9 => h9) rfl dX4_crossed_40 ?_
          refine lv_iload_n hx hb dX4_crossed_43 rfl (lv_at hl 1 rfl) ?_
          have hpa := hπ _ hp2
          have hpb := hπ _ hs2k
          refine z_iald hx hb hE hP 1 rfl (t1 / n) (by omega) (by omega) (by first | decide | omega) ((π (t1 / n) : Nat) : Int) (hg3 _ hp2) dX4_crossed_44 ?_
          refine lv_aload_n hx hb dX4_crossed_45 rfl (lv_at hl 2 rfl) ?_
          refine va_get (D := D) (ci := 4) (v := .ref (b 3)) (C := RX4) (T := TX4) (N := 32) hx hb hts inT_X4 hown hE.1 hP 0 rfl rfl 8 (by decide) (hts _ qf_X4_19) (fun _ h9 => h9) rfl dX4_crossed_46 ?_
          refine lv_iload hx hb dX4_crossed_49 (lv_at hl 0 rfl) ?_
          refine z_iald hx hb hE hP 1 rfl (t1 % n) (by omega) (by omega) (by first | decide | omega) ((π (t1 % n) : Nat) : Int) (hg3 _ hs2k) dX4_crossed_51 ?_
          refine z_icmp_le (tgt := 59) hx hb (by omega) dX4_crossed_52 (by decide) (fun c_52 => ?_) (fun c_52 => ?_)
          · have hy2 : y = fb_sm (fun t => if t / n < t % n ∧ π (t % n) < π (t / n) then 1 else 0) (t1 + 1) := by rw [fb_sm_succ, if_neg (by omega)]; exact hy
            refine lv_iconst (v := zI 0) hx hb dX4_crossed_59 rfl ?_
            refine z_iadd hx hb ((y : Nat) : Int) (by omega) dX4_crossed_60 ?_
            refine lv_istore_n (lv' := [(1, .int (zI ((y : Nat) : Int))), (4, .int (zI (((t1 % n) : Nat) : Int))), (3, .int (zI (((t1 / n) : Nat) : Int))), (0, .ref h), (2, .int (zI ((t1 : Nat) : Int)))]) hx hb dX4_crossed_61 rfl hl (by decide) rfl (fun ls hl => ?_)
            refine z_iinc (k := 4) (lv' := [(2, .int (zI (((t1 + 1) : Nat) : Int))), (1, .int (zI ((y : Nat) : Int))), (4, .int (zI (((t1 % n) : Nat) : Int))), (3, .int (zI (((t1 / n) : Nat) : Int))), (0, .ref h)]) hx hb (((t1 + 1) : Nat) : Int) (by omega) dX4_crossed_62 hl rfl (by decide) rfl (fun ls hl => ?_)
            refine lv_goto (tgt := 4) hx hb dX4_crossed_65 (by decide) ?_
            exact ih_4 (t1 + 1) y (by omega) (by omega) (by first | exact hy1 | exact hy2 | exact hy3) _ _ _ hP hD hS (lv_sub hl [4, 1, 0] rfl)
          · have hy3 : y + 1 = fb_sm (fun t => if t / n < t % n ∧ π (t % n) < π (t / n) then 1 else 0) (t1 + 1) := by rw [fb_sm_succ, if_pos (by omega), ← hy]
            refine lv_iconst (v := zI 1) hx hb dX4_crossed_55 rfl ?_
            refine lv_goto (tgt := 60) hx hb dX4_crossed_56 (by decide) ?_
            refine z_iadd hx hb (((y + 1) : Nat) : Int) (by omega) dX4_crossed_60 ?_
            refine lv_istore_n (lv' := [(1, .int (zI (((y + 1) : Nat) : Int))), (4, .int (zI (((t1 % n) : Nat) : Int))), (3, .int (zI (((t1 / n) : Nat) : Int))), (0, .ref h), (2, .int (zI ((t1 : Nat) : Int)))]) hx hb dX4_crossed_61 rfl hl (by decide) rfl (fun ls hl => ?_)
            refine z_iinc (k := 4) (lv' := [(2, .int (zI (((t1 + 1) : Nat) : Int))), (1, .int (zI (((y + 1) : Nat) : Int))), (4, .int (zI (((t1 % n) : Nat) : Int))), (3, .int (zI (((t1 / n) : Nat) : Int))), (0, .ref h)]) hx hb (((t1 + 1) : Nat) : Int) (by omega) dX4_crossed_62 hl rfl (by decide) rfl (fun ls hl => ?_)
            refine lv_goto (tgt := 4) hx hb dX4_crossed_65 (by decide) ?_
            exact ih_4 (t1 + 1) (y + 1) (by omega) (by omega) (by first | exact hy1 | exact hy2 | exact hy3) _ _ _ hP hD hS (lv_sub hl [4, 1, 0] rfl)
  exact cut_4 (n * n - 0 + 1) 0 0 (Nat.lt_succ_self _) (by omega) (by rfl) _ _ _ hP hD hS (lv_sub hl [2, 1, 0] rfl)
