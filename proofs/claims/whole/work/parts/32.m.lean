set_option maxHeartbeats 4000000 in
set_option maxRecDepth 100000 in
theorem c_X4_at (l : Launch) (D : va_G) (cI : ClassId) (h : Nat) (b : Nat → Nat) (pm n k d rr hd sm : Nat) (kr kq ku s0 s1 s2 s3 s4 s5 hs : Int) (g0 g1 g3 gq : Nat → Int) (κ ν π ss sf st : Nat → Nat) (y1 : Int) (hT : MI n k d sm g0 g1 g3 gq κ ν π ss sf st) (hy1 : -2147483648 ≤ y1 ∧ y1 < 2147483648) : zMi l yX4_at cX4_at 2 (some .int) ({ frames := 2, cells := 0, slots := 0, locals := 46 }) D cI [.ref h, .int (zI y1)] [cM h b ((pm : Nat) : Int) ((n : Nat) : Int) ((k : Nat) : Int) ((d : Nat) : Int) ((rr : Nat) : Int) ((hd : Nat) : Int) ((sm : Nat) : Int) kr kq ku s0 s1 s2 s3 s4 s5 hs, cR cI (b 3) 12 g3] (fun (z : Int) (u : Unit) => z = (fAt n π y1)) (fun (u : Unit) => [cM h b ((pm : Nat) : Int) ((n : Nat) : Int) ((k : Nat) : Int) ((d : Nat) : Int) ((rr : Nat) : Int) ((hd : Nat) : Int) ((sm : Nat) : Int) kr kq ku s0 s1 s2 s3 s4 s5 hs, cR cI (b 3) 12 g3]) := by
  intro sz
  refine zstart rfl (by decide) (Nat.le_of_ble_eq_true rfl) ?_
  intro p e s m below meth c ls K hnm hsz hP hD hS hl
  generalize hargs : ([.ref h, .int (zI y1)] : List Value).toArray = args at K ⊢
  generalize hQf : MQ below _ args s _ _ _ = Qf
  have K : zK p s m args meth c cX4_at 2 RX4 (some .int) D cI := K
  obtain ⟨hx, hb, hml, hown, hts, hE, -, -⟩ := id K
  have hA := zhA (ws0 := [cM h b ((pm : Nat) : Int) ((n : Nat) : Int) ((k : Nat) : Int) ((d : Nat) : Int) ((rr : Nat) : Int) ((hd : Nat) : Int) ((sm : Nat) : Int) kr kq ku s0 s1 s2 s3 s4 s5 hs, cR cI (b 3) 12 g3]) hsz
  have hl : lv_has ls 2 [(0, .ref h), (1, .int (zI y1))] := hl
  obtain ⟨hnk0, hd0, hv, hg0, hκ, hg1, hν, hg3, hπ, hπi, hq0, hss, hq1, hsf, hq2, hst⟩ := id hT
  have hn12 : n ≤ 12 := by omega
  have hk : k ≤ 6 := by omega
  refine lv_aload_n hx hb dX4_at_0 rfl (lv_at hl 0 rfl) ?_
  refine lv_iload_n hx hb dX4_at_1 rfl (lv_at hl 1 rfl) ?_
  refine zcall_i (wc := [cM h b ((pm : Nat) : Int) ((n : Nat) : Int) ((k : Nat) : Int) ((d : Nat) : Int) ((rr : Nat) : Int) ((hd : Nat) : Int) ((sm : Nat) : Int) kr kq ku s0 s1 s2 s3 s4 s5 hs]) (wr := [cR cI (b 3) 12 g3]) (rest := []) hE hP hD hS hA [0] [1] [1, 0] rfl rfl (by decide) (by decide) (by decide) (fun (u : Unit) => [cM h b ((pm : Nat) : Int) ((n : Nat) : Int) ((k : Nat) : Int) ((d : Nat) : Int) ((rr : Nat) : Int) ((hd : Nat) : Int) ((sm : Nat) : Int) kr kq ku s0 s1 s2 s3 s4 s5 hs, cR cI (b 3) 12 g3]) (fun u => rfl) (fun hPc hDc => zrunV (As := [.int (zI y1)]) (rest := []) (q0 := 0) (ci := 4) K k_X4_isPlace qm_X4_125 ⟨⟨rfl, rfl⟩, ⟨Nat.le_of_ble_eq_true rfl, Nat.le_of_ble_eq_true rfl⟩⟩ rfl rfl hPc hDc (c_X4_isPlace l D cI h b pm n k d rr hd sm kr kq ku s0 s1 s2 s3 s4 s5 hs y1 (by first | assumption | omega) (by first | assumption | omega) _) rfl hl.1 rfl (Nat.le_of_ble_eq_true rfl) dX4_at_2 ⟨Nat.zero_le _, Nat.zero_le _⟩) (by decide) (fun z u H locs hpost hP hD hS => ?_)
  subst hpost
  have hP : va_P D cls [cM h b ((pm : Nat) : Int) ((n : Nat) : Int) ((k : Nat) : Int) ((d : Nat) : Int) ((rr : Nat) : Int) ((hd : Nat) : Int) ((sm : Nat) : Int) kr kq ku s0 s1 s2 s3 s4 s5 hs, cR cI (b 3) 12 g3] H := hP
  have hD : va_D (va_A [cM h b ((pm : Nat) : Int) ((n : Nat) : Int) ((k : Nat) : Int) ((d : Nat) : Int) ((rr : Nat) : Int) ((hd : Nat) : Int) ((sm : Nat) : Int) kr kq ku s0 s1 s2 s3 s4 s5 hs, cR cI (b 3) 12 g3] sz) [cM h b ((pm : Nat) : Int) ((n : Nat) : Int) ((k : Nat) : Int) ((d : Nat) : Int) ((rr : Nat) : Int) ((hd : Nat) : Int) ((sm : Nat) : Int) kr kq ku s0 s1 s2 s3 s4 s5 hs, cR cI (b 3) 12 g3] := hD
  refine W.eq (g2 := F0 m 5 ls [.int (zI (b01 (0 ≤ y1 ∧ y1 < n)))]) rfl ?_
  refine z_if_eq (tgt := 17) hx hb (by have := b01_r (0 ≤ y1 ∧ y1 < n); omega) dX4_at_5 (by decide) (fun c_5 => ?_) (fun c_5 => ?_)
  · have b_5 := b01_eq c_5
    refine lv_bipush (v := zI (-101)) hx hb dX4_at_17 (by decide) ?_
    rw [← hQf]
    exact z_iret K hS () (by first | (simp only [fAt, chk_f b_5]; done) | simp only [fAt, chk_t (show q1 < n by omega)]) hP hD dX4_at_19
  · have b_5 := b01_ne c_5
    obtain ⟨q1, rfl⟩ : ∃ q : Nat, y1 = (q : Int) := ⟨y1.toNat, by omega⟩
    refine lv_aload_n hx hb dX4_at_8 rfl (lv_at hl 0 rfl) ?_
    refine va_get (D := D) (ci := 4) (v := .ref (b 3)) (C := RX4) (T := TX4) (N := 32) hx hb hts inT_X4 hown hE.1 hP 0 rfl rfl 8 (by decide) (hts _ qf_X4_19) (fun _ h9 => h9) rfl dX4_at_9 ?_
    refine lv_iload_n hx hb dX4_at_12 rfl (lv_at hl 1 rfl) ?_
    refine z_iald hx hb hE hP 1 rfl q1 (by omega) (by omega) (by first | decide | omega) ((π q1 : Nat) : Int) (hg3 q1 (by omega)) dX4_at_13 ?_
    refine lv_goto (tgt := 19) hx hb dX4_at_14 (by decide) ?_
    rw [← hQf]
    exact z_iret K hS () (by first | (simp only [fAt, chk_f b_5]; done) | simp only [fAt, chk_t (show q1 < n by omega)]) hP hD dX4_at_19
set_option maxHeartbeats 4000000 in
set_option maxRecDepth 100000 in
theorem c_X4_goes (l : Launch) (D : va_G) (cI : ClassId) (h : Nat) (b : Nat → Nat) (pm n k d rr hd sm : Nat) (kr kq ku s0 s1 s2 s3 s4 s5 hs : Int) (g0 g1 g3 gq : Nat → Int) (κ ν π ss sf st : Nat → Nat) (y1 y2 : Int) (hT : MI n k d sm g0 g1 g3 gq κ ν π ss sf st) (hy1 : -2147483648 ≤ y1 ∧ y1 < 2147483648) (hy2 : -2147483648 ≤ y2 ∧ y2 < 2147483648) : zMi l yX4_goes cX4_goes 3 (some .int) ({ frames := 4, cells := 0, slots := 0, locals := 95 }) D cI [.ref h, .int (zI y1), .int (zI y2)] [cM h b ((pm : Nat) : Int) ((n : Nat) : Int) ((k : Nat) : Int) ((d : Nat) : Int) ((rr : Nat) : Int) ((hd : Nat) : Int) ((sm : Nat) : Int) kr kq ku s0 s1 s2 s3 s4 s5 hs, cR cI (b 1) 6 g0, cR cI (b 2) 6 g1] (fun (z : Int) (u : Unit) => z = (fGoes n k κ ν y1 y2)) (fun (u : Unit) => [cM h b ((pm : Nat) : Int) ((n : Nat) : Int) ((k : Nat) : Int) ((d : Nat) : Int) ((rr : Nat) : Int) ((hd : Nat) : Int) ((sm : Nat) : Int) kr kq ku s0 s1 s2 s3 s4 s5 hs, cR cI (b 1) 6 g0, cR cI (b 2) 6 g1]) := by
  intro sz
  refine zstart rfl (by decide) (Nat.le_of_ble_eq_true rfl) ?_
  intro p e s m below meth c ls K hnm hsz hP hD hS hl
  generalize hargs : ([.ref h, .int (zI y1), .int (zI y2)] : List Value).toArray = args at K ⊢
  generalize hQf : MQ below _ args s _ _ _ = Qf
  have K : zK p s m args meth c cX4_goes 3 RX4 (some .int) D cI := K
  obtain ⟨hx, hb, hml, hown, hts, hE, -, -⟩ := id K
  have hA := zhA (ws0 := [cM h b ((pm : Nat) : Int) ((n : Nat) : Int) ((k : Nat) : Int) ((d : Nat) : Int) ((rr : Nat) : Int) ((hd : Nat) : Int) ((sm : Nat) : Int) kr kq ku s0 s1 s2 s3 s4 s5 hs, cR cI (b 1) 6 g0, cR cI (b 2) 6 g1]) hsz
  have hl : lv_has ls 3 [(0, .ref h), (1, .int (zI y1)), (2, .int (zI y2))] := hl
  obtain ⟨hnk0, hd0, hv, hg0, hκ, hg1, hν, hg3, hπ, hπi, hq0, hss, hq1, hsf, hq2, hst⟩ := id hT
  have hn12 : n ≤ 12 := by omega
  have hk : k ≤ 6 := by omega
  refine lv_aload_n hx hb dX4_goes_0 rfl (lv_at hl 0 rfl) ?_
  refine lv_iload_n hx hb dX4_goes_1 rfl (lv_at hl 1 rfl) ?_
  refine zcall_i (wc := [cM h b ((pm : Nat) : Int) ((n : Nat) : Int) ((k : Nat) : Int) ((d : Nat) : Int) ((rr : Nat) : Int) ((hd : Nat) : Int) ((sm : Nat) : Int) kr kq ku s0 s1 s2 s3 s4 s5 hs]) (wr := [cR cI (b 1) 6 g0, cR cI (b 2) 6 g1]) (rest := []) hE hP hD hS hA [0] [1, 2] [2, 0, 1] rfl rfl (by decide) (by decide) (by decide) (fun (u : Unit) => [cM h b ((pm : Nat) : Int) ((n : Nat) : Int) ((k : Nat) : Int) ((d : Nat) : Int) ((rr : Nat) : Int) ((hd : Nat) : Int) ((sm : Nat) : Int) kr kq ku s0 s1 s2 s3 s4 s5 hs, cR cI (b 1) 6 g0, cR cI (b 2) 6 g1]) (fun u => rfl) (fun hPc hDc => zrunV (As := [.int (zI y1)]) (rest := []) (q0 := 0) (ci := 4) K k_X4_isStep qm_X4_122 ⟨⟨rfl, rfl⟩, ⟨Nat.le_of_ble_eq_true rfl, Nat.le_of_ble_eq_true rfl⟩⟩ rfl rfl hPc hDc (c_X4_isStep l D cI h b pm n k d rr hd sm kr kq ku s0 s1 s2 s3 s4 s5 hs y1 (by first | assumption | omega) (by first | assumption | omega) _) rfl hl.1 rfl (Nat.le_of_ble_eq_true rfl) dX4_goes_2 ⟨Nat.zero_le _, Nat.zero_le _⟩) (by decide) (fun z u H locs hpost hP hD hS => ?_)
  subst hpost
  have hP : va_P D cls [cM h b ((pm : Nat) : Int) ((n : Nat) : Int) ((k : Nat) : Int) ((d : Nat) : Int) ((rr : Nat) : Int) ((hd : Nat) : Int) ((sm : Nat) : Int) kr kq ku s0 s1 s2 s3 s4 s5 hs, cR cI (b 1) 6 g0, cR cI (b 2) 6 g1] H := hP
  have hD : va_D (va_A [cM h b ((pm : Nat) : Int) ((n : Nat) : Int) ((k : Nat) : Int) ((d : Nat) : Int) ((rr : Nat) : Int) ((hd : Nat) : Int) ((sm : Nat) : Int) kr kq ku s0 s1 s2 s3 s4 s5 hs, cR cI (b 1) 6 g0, cR cI (b 2) 6 g1] sz) [cM h b ((pm : Nat) : Int) ((n : Nat) : Int) ((k : Nat) : Int) ((d : Nat) : Int) ((rr : Nat) : Int) ((hd : Nat) : Int) ((sm : Nat) : Int) kr kq ku s0 s1 s2 s3 s4 s5 hs, cR cI (b 1) 6 g0, cR cI (b 2) 6 g1] := hD
  refine W.eq (g2 := F0 m 5 ls [.int (zI (b01 (0 ≤ y1 ∧ y1 < k)))]) rfl ?_
  refine z_if_eq (tgt := 25) hx hb (by have := b01_r (0 ≤ y1 ∧ y1 < k); omega) dX4_goes_5 (by decide) (fun c_5 => ?_) (fun c_5 => ?_)
  · have b_5 := b01_eq c_5
    refine lv_bipush (v := zI (-101)) hx hb dX4_goes_25 (by decide) ?_
    rw [← hQf]
    exact z_iret K hS () (by first | (simp only [fGoes, chk_f b_5]; done) | (simp only [fGoes, chk_t (show q1 < k by omega), chk_f b_13]; done) | simp only [fGoes, chk_t (show q1 < k by omega), chk_t (show q2 < n by omega)]) hP hD dX4_goes_27
  · have b_5 := b01_ne c_5
    obtain ⟨q1, rfl⟩ : ∃ q : Nat, y1 = (q : Int) := ⟨y1.toNat, by omega⟩
    have hn : 2 ≤ n ∧ n ≤ 12 := by omega
    refine lv_aload_n hx hb dX4_goes_8 rfl (lv_at hl 0 rfl) ?_
    refine lv_iload_n hx hb dX4_goes_9 rfl (lv_at hl 2 rfl) ?_
    refine zcall_i (wc := [cM h b ((pm : Nat) : Int) ((n : Nat) : Int) ((k : Nat) : Int) ((d : Nat) : Int) ((rr : Nat) : Int) ((hd : Nat) : Int) ((sm : Nat) : Int) kr kq ku s0 s1 s2 s3 s4 s5 hs]) (wr := [cR cI (b 1) 6 g0, cR cI (b 2) 6 g1]) (rest := []) hE hP hD hS hA [0] [1, 2] [2, 0, 1] rfl rfl (by decide) (by decide) (by decide) (fun (u : Unit) => [cM h b ((pm : Nat) : Int) ((n : Nat) : Int) ((k : Nat) : Int) ((d : Nat) : Int) ((rr : Nat) : Int) ((hd : Nat) : Int) ((sm : Nat) : Int) kr kq ku s0 s1 s2 s3 s4 s5 hs, cR cI (b 1) 6 g0, cR cI (b 2) 6 g1]) (fun u => rfl) (fun hPc hDc => zrunV (As := [.int (zI y2)]) (rest := []) (q0 := 0) (ci := 4) K k_X4_isPlace qm_X4_125 ⟨⟨rfl, rfl⟩, ⟨Nat.le_of_ble_eq_true rfl, Nat.le_of_ble_eq_true rfl⟩⟩ rfl rfl hPc hDc (c_X4_isPlace l D cI h b pm n k d rr hd sm kr kq ku s0 s1 s2 s3 s4 s5 hs y2 (by first | assumption | omega) (by first | assumption | omega) _) rfl hl.1 rfl (Nat.le_of_ble_eq_true rfl) dX4_goes_10 ⟨Nat.zero_le _, Nat.zero_le _⟩) (by decide) (fun z u H locs hpost hP hD hS => ?_)
    subst hpost
    have hP : va_P D cls [cM h b ((pm : Nat) : Int) ((n : Nat) : Int) ((k : Nat) : Int) ((d : Nat) : Int) ((rr : Nat) : Int) ((hd : Nat) : Int) ((sm : Nat) : Int) kr kq ku s0 s1 s2 s3 s4 s5 hs, cR cI (b 1) 6 g0, cR cI (b 2) 6 g1] H := hP
    have hD : va_D (va_A [cM h b ((pm : Nat) : Int) ((n : Nat) : Int) ((k : Nat) : Int) ((d : Nat) : Int) ((rr : Nat) : Int) ((hd : Nat) : Int) ((sm : Nat) : Int) kr kq ku s0 s1 s2 s3 s4 s5 hs, cR cI (b 1) 6 g0, cR cI (b 2) 6 g1] sz) [cM h b ((pm : Nat) : Int) ((n : Nat) : Int) ((k : Nat) : Int) ((d : Nat) : Int) ((rr : Nat) : Int) ((hd : Nat) : Int) ((sm : Nat) : Int) kr kq ku s0 s1 s2 s3 s4 s5 hs, cR cI (b 1) 6 g0, cR cI (b 2) 6 g1] := hD
    refine W.eq (g2 := F0 m 13 ls [.int (zI (b01 (0 ≤ y2 ∧ y2 < n)))]) rfl ?_
    refine z_if_eq (tgt := 25) hx hb (by have := b01_r (0 ≤ y2 ∧ y2 < n); omega) dX4_goes_13 (by decide) (fun c_13 => ?_) (fun c_13 => ?_)
    · have b_13 := b01_eq c_13
      refine lv_bipush (v := zI (-101)) hx hb dX4_goes_25 (by decide) ?_
      rw [← hQf]
      exact z_iret K hS () (by first | (simp only [fGoes, chk_f b_5]; done) | (simp only [fGoes, chk_t (show q1 < k by omega), chk_f b_13]; done) | simp only [fGoes, chk_t (show q1 < k by omega), chk_t (show q2 < n by omega)]) hP hD dX4_goes_27
    · have b_13 := b01_ne c_13
      obtain ⟨q2, rfl⟩ : ∃ q : Nat, y2 = (q : Int) := ⟨y2.toNat, by omega⟩
      refine lv_aload_n hx hb dX4_goes_16 rfl (lv_at hl 0 rfl) ?_
      refine lv_iload_n hx hb dX4_goes_17 rfl (lv_at hl 1 rfl) ?_
      refine lv_iload_n hx hb dX4_goes_18 rfl (lv_at hl 2 rfl) ?_
      refine zcall_i (wc := [cM h b ((pm : Nat) : Int) ((n : Nat) : Int) ((k : Nat) : Int) ((d : Nat) : Int) ((rr : Nat) : Int) ((hd : Nat) : Int) ((sm : Nat) : Int) kr kq ku s0 s1 s2 s3 s4 s5 hs, cR cI (b 1) 6 g0, cR cI (b 2) 6 g1]) (wr := []) (rest := []) hE hP hD hS hA [0, 1, 2] [] [0, 1, 2] rfl rfl (by decide) (by decide) (by decide) (fun (u : Unit) => [cM h b ((pm : Nat) : Int) ((n : Nat) : Int) ((k : Nat) : Int) ((d : Nat) : Int) ((rr : Nat) : Int) ((hd : Nat) : Int) ((sm : Nat) : Int) kr kq ku s0 s1 s2 s3 s4 s5 hs, cR cI (b 1) 6 g0, cR cI (b 2) 6 g1]) (fun u => rfl) (fun hPc hDc => zrunV (As := [.int (zI ((q1 : Nat) : Int)), .int (zI ((q2 : Nat) : Int))]) (rest := []) (q0 := 0) (ci := 4) K k_X4_goesOf qm_X4_128 ⟨⟨rfl, rfl⟩, ⟨Nat.le_of_ble_eq_true rfl, Nat.le_of_ble_eq_true rfl⟩⟩ rfl rfl hPc hDc (c_X4_goesOf l D cI h b pm n k d rr hd sm kr kq ku s0 s1 s2 s3 s4 s5 hs g0 g1 κ ν q1 q2 (by first | assumption | omega) (by first | assumption | omega) (by first | assumption | omega) (by first | assumption | omega) (by first | assumption | omega) (by first | assumption | omega) (by first | assumption | omega) (by first | assumption | omega) _) rfl hl.1 rfl (Nat.le_of_ble_eq_true rfl) dX4_goes_19 ⟨Nat.zero_le _, Nat.zero_le _⟩) (by decide) (fun z u H locs hpost hP hD hS => ?_)
      subst hpost
      have hP : va_P D cls [cM h b ((pm : Nat) : Int) ((n : Nat) : Int) ((k : Nat) : Int) ((d : Nat) : Int) ((rr : Nat) : Int) ((hd : Nat) : Int) ((sm : Nat) : Int) kr kq ku s0 s1 s2 s3 s4 s5 hs, cR cI (b 1) 6 g0, cR cI (b 2) 6 g1] H := hP
      have hD : va_D (va_A [cM h b ((pm : Nat) : Int) ((n : Nat) : Int) ((k : Nat) : Int) ((d : Nat) : Int) ((rr : Nat) : Int) ((hd : Nat) : Int) ((sm : Nat) : Int) kr kq ku s0 s1 s2 s3 s4 s5 hs, cR cI (b 1) 6 g0, cR cI (b 2) 6 g1] sz) [cM h b ((pm : Nat) : Int) ((n : Nat) : Int) ((k : Nat) : Int) ((d : Nat) : Int) ((rr : Nat) : Int) ((hd : Nat) : Int) ((sm : Nat) : Int) kr kq ku s0 s1 s2 s3 s4 s5 hs, cR cI (b 1) 6 g0, cR cI (b 2) 6 g1] := hD
      refine W.eq (g2 := F0 m 22 ls [.int (zI (((mus n κ ν q1 q2) : Nat) : Int))]) rfl ?_
      refine lv_goto (tgt := 27) hx hb dX4_goes_22 (by decide) ?_
      rw [← hQf]
      exact z_iret K hS () (by first | (simp only [fGoes, chk_f b_5]; done) | (simp only [fGoes, chk_t (show q1 < k by omega), chk_f b_13]; done) | simp only [fGoes, chk_t (show q1 < k by omega), chk_t (show q2 < n by omega)]) hP hD dX4_goes_27
set_option maxHeartbeats 4000000 in
set_option maxRecDepth 100000 in
theorem c_X4_round (l : Launch) (D : va_G) (cI : ClassId) (h : Nat) (b : Nat → Nat) (pm n k d rr hd sm : Nat) (kr kq ku s0 s1 s2 s3 s4 s5 hs : Int) (g0 g1 g3 gq : Nat → Int) (κ ν π ss sf st : Nat → Nat) (y1 : Int) (hT : MI n k d sm g0 g1 g3 gq κ ν π ss sf st) (hy1 : -2147483648 ≤ y1 ∧ y1 < 2147483648) : zMi l yX4_round cX4_round 2 (some .int) ({ frames := 5, cells := 0, slots := 0, locals := 118 }) D cI [.ref h, .int (zI y1)] [cM h b ((pm : Nat) : Int) ((n : Nat) : Int) ((k : Nat) : Int) ((d : Nat) : Int) ((rr : Nat) : Int) ((hd : Nat) : Int) ((sm : Nat) : Int) kr kq ku s0 s1 s2 s3 s4 s5 hs, cR cI (b 1) 6 g0, cR cI (b 2) 6 g1] (fun (z : Int) (u : Unit) => z = (fRound n k κ ν y1)) (fun (u : Unit) => [cM h b ((pm : Nat) : Int) ((n : Nat) : Int) ((k : Nat) : Int) ((d : Nat) : Int) ((rr : Nat) : Int) ((hd : Nat) : Int) ((sm : Nat) : Int) kr kq ku s0 s1 s2 s3 s4 s5 hs, cR cI (b 1) 6 g0, cR cI (b 2) 6 g1]) := by
  intro sz
  refine zstart rfl (by decide) (Nat.le_of_ble_eq_true rfl) ?_
  intro p e s m below meth c ls K hnm hsz hP hD hS hl
  generalize hargs : ([.ref h, .int (zI y1)] : List Value).toArray = args at K ⊢
  generalize hQf : MQ below _ args s _ _ _ = Qf
  have K : zK p s m args meth c cX4_round 2 RX4 (some .int) D cI := K
  obtain ⟨hx, hb, hml, hown, hts, hE, -, -⟩ := id K
  have hA := zhA (ws0 := [cM h b ((pm : Nat) : Int) ((n : Nat) : Int) ((k : Nat) : Int) ((d : Nat) : Int) ((rr : Nat) : Int) ((hd : Nat) : Int) ((sm : Nat) : Int) kr kq ku s0 s1 s2 s3 s4 s5 hs, cR cI (b 1) 6 g0, cR cI (b 2) 6 g1]) hsz
  have hl : lv_has ls 2 [(0, .ref h), (1, .int (zI y1))] := hl
  obtain ⟨hnk0, hd0, hv, hg0, hκ, hg1, hν, hg3, hπ, hπi, hq0, hss, hq1, hsf, hq2, hst⟩ := id hT
  have hn12 : n ≤ 12 := by omega
  have hk : k ≤ 6 := by omega
  refine lv_aload_n hx hb dX4_round_0 rfl (lv_at hl 0 rfl) ?_
  refine lv_iload_n hx hb dX4_round_1 rfl (lv_at hl 1 rfl) ?_
  refine zcall_i (wc := [cM h b ((pm : Nat) : Int) ((n : Nat) : Int) ((k : Nat) : Int) ((d : Nat) : Int) ((rr : Nat) : Int) ((hd : Nat) : Int) ((sm : Nat) : Int) kr kq ku s0 s1 s2 s3 s4 s5 hs]) (wr := [cR cI (b 1) 6 g0, cR cI (b 2) 6 g1]) (rest := []) hE hP hD hS hA [0] [1, 2] [2, 0, 1] rfl rfl (by decide) (by decide) (by decide) (fun (u : Unit) => [cM h b ((pm : Nat) : Int) ((n : Nat) : Int) ((k : Nat) : Int) ((d : Nat) : Int) ((rr : Nat) : Int) ((hd : Nat) : Int) ((sm : Nat) : Int) kr kq ku s0 s1 s2 s3 s4 s5 hs, cR cI (b 1) 6 g0, cR cI (b 2) 6 g1]) (fun u => rfl) (fun hPc hDc => zrunV (As := [.int (zI y1)]) (rest := []) (q0 := 0) (ci := 4) K k_X4_isPlace qm_X4_125 ⟨⟨rfl, rfl⟩, ⟨Nat.le_of_ble_eq_true rfl, Nat.le_of_ble_eq_true rfl⟩⟩ rfl rfl hPc hDc (c_X4_isPlace l D cI h b pm n k d rr hd sm kr kq ku s0 s1 s2 s3 s4 s5 hs y1 (by first | assumption | omega) (by first | assumption | omega) _) rfl hl.1 rfl (Nat.le_of_ble_eq_true rfl) dX4_round_2 ⟨Nat.zero_le _, Nat.zero_le _⟩) (by decide) (fun z u H locs hpost hP hD hS => ?_)
  subst hpost
  have hP : va_P D cls [cM h b ((pm : Nat) : Int) ((n : Nat) : Int) ((k : Nat) : Int) ((d : Nat) : Int) ((rr : Nat) : Int) ((hd : Nat) : Int) ((sm : Nat) : Int) kr kq ku s0 s1 s2 s3 s4 s5 hs, cR cI (b 1) 6 g0, cR cI (b 2) 6 g1] H := hP
  have hD : va_D (va_A [cM h b ((pm : Nat) : Int) ((n : Nat) : Int) ((k : Nat) : Int) ((d : Nat) : Int) ((rr : Nat) : Int) ((hd : Nat) : Int) ((sm : Nat) : Int) kr kq ku s0 s1 s2 s3 s4 s5 hs, cR cI (b 1) 6 g0, cR cI (b 2) 6 g1] sz) [cM h b ((pm : Nat) : Int) ((n : Nat) : Int) ((k : Nat) : Int) ((d : Nat) : Int) ((rr : Nat) : Int) ((hd : Nat) : Int) ((sm : Nat) : Int) kr kq ku s0 s1 s2 s3 s4 s5 hs, cR cI (b 1) 6 g0, cR cI (b 2) 6 g1] := hD
  refine W.eq (g2 := F0 m 5 ls [.int (zI (b01 (0 ≤ y1 ∧ y1 < n)))]) rfl ?_
  refine z_if_eq (tgt := 16) hx hb (by have := b01_r (0 ≤ y1 ∧ y1 < n); omega) dX4_round_5 (by decide) (fun c_5 => ?_) (fun c_5 => ?_)
  · have b_5 := b01_eq c_5
    refine lv_bipush (v := zI (-101)) hx hb dX4_round_16 (by decide) ?_
    rw [← hQf]
    exact z_iret K hS () (by first | (simp only [fRound, chk_f b_5]; done) | simp only [fRound, chk_t (show q1 < n by omega)]) hP hD dX4_round_18
  · have b_5 := b01_ne c_5
    obtain ⟨q1, rfl⟩ : ∃ q : Nat, y1 = (q : Int) := ⟨y1.toNat, by omega⟩
    have hn : 2 ≤ n ∧ n ≤ 12 := by omega
    refine lv_aload_n hx hb dX4_round_8 rfl (lv_at hl 0 rfl) ?_
    refine lv_iload_n hx hb dX4_round_9 rfl (lv_at hl 1 rfl) ?_
    refine zcall_i (wc := [cM h b ((pm : Nat) : Int) ((n : Nat) : Int) ((k : Nat) : Int) ((d : Nat) : Int) ((rr : Nat) : Int) ((hd : Nat) : Int) ((sm : Nat) : Int) kr kq ku s0 s1 s2 s3 s4 s5 hs, cR cI (b 1) 6 g0, cR cI (b 2) 6 g1]) (wr := []) (rest := []) hE hP hD hS hA [0, 1, 2] [] [0, 1, 2] rfl rfl (by decide) (by decide) (by decide) (fun (u : Unit) => [cM h b ((pm : Nat) : Int) ((n : Nat) : Int) ((k : Nat) : Int) ((d : Nat) : Int) ((rr : Nat) : Int) ((hd : Nat) : Int) ((sm : Nat) : Int) kr kq ku s0 s1 s2 s3 s4 s5 hs, cR cI (b 1) 6 g0, cR cI (b 2) 6 g1]) (fun u => rfl) (fun hPc hDc => zrunV (As := [.int (zI ((q1 : Nat) : Int))]) (rest := []) (q0 := 0) (ci := 4) K k_X4_roundOf qm_X4_131 ⟨⟨rfl, rfl⟩, ⟨Nat.le_of_ble_eq_true rfl, Nat.le_of_ble_eq_true rfl⟩⟩ rfl rfl hPc hDc (c_X4_roundOf l D cI h b pm n k d rr hd sm kr kq ku s0 s1 s2 s3 s4 s5 hs g0 g1 κ ν q1 (by first | assumption | omega) (by first | assumption | omega) (by first | assumption | omega) (by first | assumption | omega) (by first | assumption | omega) (by first | assumption | omega) (by first | assumption | omega) _) rfl hl.1 rfl (Nat.le_of_ble_eq_true rfl) dX4_round_10 ⟨Nat.zero_le _, Nat.zero_le _⟩) (by decide) (fun z u H locs hpost hP hD hS => ?_)
    subst hpost
    have hP : va_P D cls [cM h b ((pm : Nat) : Int) ((n : Nat) : Int) ((k : Nat) : Int) ((d : Nat) : Int) ((rr : Nat) : Int) ((hd : Nat) : Int) ((sm : Nat) : Int) kr kq ku s0 s1 s2 s3 s4 s5 hs, cR cI (b 1) 6 g0, cR cI (b 2) 6 g1] H := hP
    have hD : va_D (va_A [cM h b ((pm : Nat) : Int) ((n : Nat) : Int) ((k : Nat) : Int) ((d : Nat) : Int) ((rr : Nat) : Int) ((hd : Nat) : Int) ((sm : Nat) : Int) kr kq ku s0 s1 s2 s3 s4 s5 hs, cR cI (b 1) 6 g0, cR cI (b 2) 6 g1] sz) [cM h b ((pm : Nat) : Int) ((n : Nat) : Int) ((k : Nat) : Int) ((d : Nat) : Int) ((rr : Nat) : Int) ((hd : Nat) : Int) ((sm : Nat) : Int) kr kq ku s0 s1 s2 s3 s4 s5 hs, cR cI (b 1) 6 g0, cR cI (b 2) 6 g1] := hD
    refine W.eq (g2 := F0 m 13 ls [.int (zI (((rdc (mus n κ ν) k q1) : Nat) : Int))]) rfl ?_
    refine lv_goto (tgt := 18) hx hb dX4_round_13 (by decide) ?_
    rw [← hQf]
    exact z_iret K hS () (by first | (simp only [fRound, chk_f b_5]; done) | simp only [fRound, chk_t (show q1 < n by omega)]) hP hD dX4_round_18
set_option maxHeartbeats 4000000 in
set_option maxRecDepth 100000 in
theorem c_X4_after (l : Launch) (D : va_G) (cI : ClassId) (h : Nat) (b : Nat → Nat) (pm n k d rr hd sm : Nat) (kr kq ku s0 s1 s2 s3 s4 s5 hs : Int) (g0 g1 g3 gq : Nat → Int) (κ ν π ss sf st : Nat → Nat) (f : Nat → Int) (y1 y2 : Int) (hT : MI n k d sm g0 g1 g3 gq κ ν π ss sf st) (hy1 : -2147483648 ≤ y1 ∧ y1 < 2147483648) (hy2 : -2147483648 ≤ y2 ∧ y2 < 2147483648) : zMi l yX4_after cX4_after 3 (some .int) ({ frames := 7, cells := 0, slots := 0, locals := 164 }) D cI [.ref h, .int (zI y1), .int (zI y2)] [cM h b ((pm : Nat) : Int) ((n : Nat) : Int) ((k : Nat) : Int) ((d : Nat) : Int) ((rr : Nat) : Int) ((hd : Nat) : Int) ((sm : Nat) : Int) kr kq ku s0 s1 s2 s3 s4 s5 hs, cR cI (b 1) 6 g0, cR cI (b 2) 6 g1, cR cI (b 4) 12 f] (fun (z : Int) (u : (Int) × (Int) × (Int) × (Int) × (Nat → Int)) => z = (fAfter n k κ ν y1 y2)) (fun (u : (Int) × (Int) × (Int) × (Int) × (Nat → Int)) => [cM h b ((pm : Nat) : Int) ((n : Nat) : Int) ((k : Nat) : Int) ((d : Nat) : Int) ((rr : Nat) : Int) ((hd : Nat) : Int) ((sm : Nat) : Int) kr kq ku u.1 u.2.1 u.2.2.1 u.2.2.2.1 s4 s5 hs, cR cI (b 1) 6 g0, cR cI (b 2) 6 g1, cR cI (b 4) 12 u.2.2.2.2]) := by
  intro sz
  refine zstart rfl (by decide) (Nat.le_of_ble_eq_true rfl) ?_
  intro p e s m below meth c ls K hnm hsz hP hD hS hl
  generalize hargs : ([.ref h, .int (zI y1), .int (zI y2)] : List Value).toArray = args at K ⊢
  generalize hQf : MQ below _ args s _ _ _ = Qf
  have K : zK p s m args meth c cX4_after 3 RX4 (some .int) D cI := K
  obtain ⟨hx, hb, hml, hown, hts, hE, -, -⟩ := id K
  have hA := zhA (ws0 := [cM h b ((pm : Nat) : Int) ((n : Nat) : Int) ((k : Nat) : Int) ((d : Nat) : Int) ((rr : Nat) : Int) ((hd : Nat) : Int) ((sm : Nat) : Int) kr kq ku s0 s1 s2 s3 s4 s5 hs, cR cI (b 1) 6 g0, cR cI (b 2) 6 g1, cR cI (b 4) 12 f]) hsz
  have hl : lv_has ls 3 [(0, .ref h), (1, .int (zI y1)), (2, .int (zI y2))] := hl
  obtain ⟨hnk0, hd0, hv, hg0, hκ, hg1, hν, hg3, hπ, hπi, hq0, hss, hq1, hsf, hq2, hst⟩ := id hT
  have hn12 : n ≤ 12 := by omega
  have hk : k ≤ 6 := by omega
  refine lv_aload_n hx hb dX4_after_0 rfl (lv_at hl 0 rfl) ?_
  refine lv_iload_n hx hb dX4_after_1 rfl (lv_at hl 1 rfl) ?_
  refine zcall_i (wc := [cM h b ((pm : Nat) : Int) ((n : Nat) : Int) ((k : Nat) : Int) ((d : Nat) : Int) ((rr : Nat) : Int) ((hd : Nat) : Int) ((sm : Nat) : Int) kr kq ku s0 s1 s2 s3 s4 s5 hs]) (wr := [cR cI (b 1) 6 g0, cR cI (b 2) 6 g1, cR cI (b 4) 12 f]) (rest := []) hE hP hD hS hA [0] [1, 2, 3] [3, 0, 1, 2] rfl rfl (by decide) (by decide) (by decide) (fun (u : Unit) => [cM h b ((pm : Nat) : Int) ((n : Nat) : Int) ((k : Nat) : Int) ((d : Nat) : Int) ((rr : Nat) : Int) ((hd : Nat) : Int) ((sm : Nat) : Int) kr kq ku s0 s1 s2 s3 s4 s5 hs, cR cI (b 1) 6 g0, cR cI (b 2) 6 g1, cR cI (b 4) 12 f]) (fun u => rfl) (fun hPc hDc => zrunV (As := [.int (zI y1)]) (rest := []) (q0 := 0) (ci := 4) K k_X4_isPlace qm_X4_125 ⟨⟨rfl, rfl⟩, ⟨Nat.le_of_ble_eq_true rfl, Nat.le_of_ble_eq_true rfl⟩⟩ rfl rfl hPc hDc (c_X4_isPlace l D cI h b pm n k d rr hd sm kr kq ku s0 s1 s2 s3 s4 s5 hs y1 (by first | assumption | omega) (by first | assumption | omega) _) rfl hl.1 rfl (Nat.le_of_ble_eq_true rfl) dX4_after_2 ⟨Nat.zero_le _, Nat.zero_le _⟩) (by decide) (fun z u H locs hpost hP hD hS => ?_)
  subst hpost
  have hP : va_P D cls [cM h b ((pm : Nat) : Int) ((n : Nat) : Int) ((k : Nat) : Int) ((d : Nat) : Int) ((rr : Nat) : Int) ((hd : Nat) : Int) ((sm : Nat) : Int) kr kq ku s0 s1 s2 s3 s4 s5 hs, cR cI (b 1) 6 g0, cR cI (b 2) 6 g1, cR cI (b 4) 12 f] H := hP
  have hD : va_D (va_A [cM h b ((pm : Nat) : Int) ((n : Nat) : Int) ((k : Nat) : Int) ((d : Nat) : Int) ((rr : Nat) : Int) ((hd : Nat) : Int) ((sm : Nat) : Int) kr kq ku s0 s1 s2 s3 s4 s5 hs, cR cI (b 1) 6 g0, cR cI (b 2) 6 g1, cR cI (b 4) 12 f] sz) [cM h b ((pm : Nat) : Int) ((n : Nat) : Int) ((k : Nat) : Int) ((d : Nat) : Int) ((rr : Nat) : Int) ((hd : Nat) : Int) ((sm : Nat) : Int) kr kq ku s0 s1 s2 s3 s4 s5 hs, cR cI (b 1) 6 g0, cR cI (b 2) 6 g1, cR cI (b 4) 12 f] := hD
  refine W.eq (g2 := F0 m 5 ls [.int (zI (b01 (0 ≤ y1 ∧ y1 < n)))]) rfl ?_
  refine z_if_ne (tgt := 11) hx hb (by have := b01_r (0 ≤ y1 ∧ y1 < n); omega) dX4_after_5 (by decide) (fun c_5 => ?_) (fun c_5 => ?_)
  · have b_5 := b01_ne c_5
    obtain ⟨q1, rfl⟩ : ∃ q : Nat, y1 = (q : Int) := ⟨y1.toNat, by omega⟩
    have hn : 2 ≤ n ∧ n ≤ 12 := by omega
    refine lv_iload_n hx hb dX4_after_11 rfl (lv_at hl 2 rfl) ?_
    refine z_i2l hx hb (by omega) dX4_after_12 ?_
    refine lv_lconst (v := zL 0) hx hb dX4_after_13 (by decide) ?_
    refine lv_ldc2 (v := zL 1000000000) hx hb hown (hts _ qk_X4_167) dX4_after_14 ?_
    refine zcall_i (wc := []) (wr := [cM h b ((pm : Nat) : Int) ((n : Nat) : Int) ((k : Nat) : Int) ((d : Nat) : Int) ((rr : Nat) : Int) ((hd : Nat) : Int) ((sm : Nat) : Int) kr kq ku s0 s1 s2 s3 s4 s5 hs, cR cI (b 1) 6 g0, cR cI (b 2) 6 g1, cR cI (b 4) 12 f]) (rest := []) hE hP hD hS hA [] [0, 1, 2, 3] [0, 1, 2, 3] rfl rfl (by decide) (by decide) (by decide) (fun (u : Unit) => [cM h b ((pm : Nat) : Int) ((n : Nat) : Int) ((k : Nat) : Int) ((d : Nat) : Int) ((rr : Nat) : Int) ((hd : Nat) : Int) ((sm : Nat) : Int) kr kq ku s0 s1 s2 s3 s4 s5 hs, cR cI (b 1) 6 g0, cR cI (b 2) 6 g1, cR cI (b 4) 12 f]) (fun u => rfl) (fun hPc hDc => zrunS (As := [.long (zL y2), .long (zL 0), .long (zL 1000000000)]) (rest := []) K k_X4_in qm_X4_61 ⟨⟨rfl, rfl⟩, ⟨Nat.le_of_ble_eq_true rfl, Nat.le_of_ble_eq_true rfl⟩⟩ hPc hDc (c_X4_in l D cI y2 0 1000000000 (by first | assumption | omega) (by first | assumption | omega) (by first | assumption | omega) _) rfl hl.1 rfl (Nat.le_of_ble_eq_true rfl) dX4_after_17 ⟨Nat.zero_le _, Nat.zero_le _⟩) (by decide) (fun z u H locs hpost hP hD hS => ?_)
    subst hpost
    have hP : va_P D cls [cM h b ((pm : Nat) : Int) ((n : Nat) : Int) ((k : Nat) : Int) ((d : Nat) : Int) ((rr : Nat) : Int) ((hd : Nat) : Int) ((sm : Nat) : Int) kr kq ku s0 s1 s2 s3 s4 s5 hs, cR cI (b 1) 6 g0, cR cI (b 2) 6 g1, cR cI (b 4) 12 f] H := hP
    have hD : va_D (va_A [cM h b ((pm : Nat) : Int) ((n : Nat) : Int) ((k : Nat) : Int) ((d : Nat) : Int) ((rr : Nat) : Int) ((hd : Nat) : Int) ((sm : Nat) : Int) kr kq ku s0 s1 s2 s3 s4 s5 hs, cR cI (b 1) 6 g0, cR cI (b 2) 6 g1, cR cI (b 4) 12 f] sz) [cM h b ((pm : Nat) : Int) ((n : Nat) : Int) ((k : Nat) : Int) ((d : Nat) : Int) ((rr : Nat) : Int) ((hd : Nat) : Int) ((sm : Nat) : Int) kr kq ku s0 s1 s2 s3 s4 s5 hs, cR cI (b 1) 6 g0, cR cI (b 2) 6 g1, cR cI (b 4) 12 f] := hD
    refine W.eq (g2 := F0 m 20 ls [.int (zI (b01 (0 ≤ y2 ∧ y2 ≤ 1000000000)))]) rfl ?_
    refine z_if_eq (tgt := 32) hx hb (by have := b01_r (0 ≤ y2 ∧ y2 ≤ 1000000000); omega) dX4_after_20 (by decide) (fun c_20 => ?_) (fun c_20 => ?_)
    · have b_20 := b01_eq c_20
      refine lv_bipush (v := zI (-102)) hx hb dX4_after_32 (by decide) ?_
      rw [← hQf]
      exact z_iret K hS (s0, s1, s2, s3, f) (by first | (simp only [fAfter, chk_t (show q1 < n by omega)]; rw [chk_f (by omega)]; done) | simp only [fAfter, chk_t (show q1 < n by omega), chk_t (show q2 < 1000000001 by omega)]) hP hD dX4_after_34
    · have b_20 := b01_ne c_20
      obtain ⟨q2, rfl⟩ : ∃ q : Nat, y2 = (q : Int) := ⟨y2.toNat, by omega⟩
      refine lv_aload_n hx hb dX4_after_23 rfl (lv_at hl 0 rfl) ?_
      refine lv_iload_n hx hb dX4_after_24 rfl (lv_at hl 1 rfl) ?_
      refine lv_iload_n hx hb dX4_after_25 rfl (lv_at hl 2 rfl) ?_
      refine zcall_i (wc := [cM h b ((pm : Nat) : Int) ((n : Nat) : Int) ((k : Nat) : Int) ((d : Nat) : Int) ((rr : Nat) : Int) ((hd : Nat) : Int) ((sm : Nat) : Int) kr kq ku s0 s1 s2 s3 s4 s5 hs, cR cI (b 1) 6 g0, cR cI (b 2) 6 g1, cR cI (b 4) 12 f]) (wr := []) (rest := []) hE hP hD hS hA [0, 1, 2, 3] [] [0, 1, 2, 3] rfl rfl (by decide) (by decide) (by decide) (fun (u : (Int) × (Int) × (Int) × (Int) × (Nat → Int)) => [cM h b ((pm : Nat) : Int) ((n : Nat) : Int) ((k : Nat) : Int) ((d : Nat) : Int) ((rr : Nat) : Int) ((hd : Nat) : Int) ((sm : Nat) : Int) kr kq ku u.1 u.2.1 u.2.2.1 u.2.2.2.1 s4 s5 hs, cR cI (b 1) 6 g0, cR cI (b 2) 6 g1, cR cI (b 4) 12 u.2.2.2.2]) (fun u => rfl) (fun hPc hDc => zrunV (As := [.int (zI ((q1 : Nat) : Int)), .int (zI ((q2 : Nat) : Int))]) (rest := []) (q0 := 0) (ci := 4) K k_X4_afterOf qm_X4_169 ⟨⟨rfl, rfl⟩, ⟨Nat.le_of_ble_eq_true rfl, Nat.le_of_ble_eq_true rfl⟩⟩ rfl rfl hPc hDc (c_X4_afterOf l D cI h b pm n k d rr hd sm kr kq ku s0 s1 s2 s3 s4 s5 hs g0 g1 κ ν f q1 q2 (by first | assumption | omega) (by first | assumption | omega) (by first | assumption | omega) (by first | assumption | omega) (by first | assumption | omega) (by first | assumption | omega) (by first | assumption | omega) (by first | assumption | omega) _) rfl hl.1 rfl (Nat.le_of_ble_eq_true rfl) dX4_after_26 ⟨Nat.zero_le _, Nat.zero_le _⟩) (by decide) (fun z u H locs hpost hP hD hS => ?_)
      obtain ⟨t_1, t_2, t_3, t_4, f_5⟩ := u
      subst hpost
      have hP : va_P D cls [cM h b ((pm : Nat) : Int) ((n : Nat) : Int) ((k : Nat) : Int) ((d : Nat) : Int) ((rr : Nat) : Int) ((hd : Nat) : Int) ((sm : Nat) : Int) kr kq ku t_1 t_2 t_3 t_4 s4 s5 hs, cR cI (b 1) 6 g0, cR cI (b 2) 6 g1, cR cI (b 4) 12 f_5] H := hP
      have hD : va_D (va_A [cM h b ((pm : Nat) : Int) ((n : Nat) : Int) ((k : Nat) : Int) ((d : Nat) : Int) ((rr : Nat) : Int) ((hd : Nat) : Int) ((sm : Nat) : Int) kr kq ku s0 s1 s2 s3 s4 s5 hs, cR cI (b 1) 6 g0, cR cI (b 2) 6 g1, cR cI (b 4) 12 f] sz) [cM h b ((pm : Nat) : Int) ((n : Nat) : Int) ((k : Nat) : Int) ((d : Nat) : Int) ((rr : Nat) : Int) ((hd : Nat) : Int) ((sm : Nat) : Int) kr kq ku t_1 t_2 t_3 t_4 s4 s5 hs, cR cI (b 1) 6 g0, cR cI (b 2) 6 g1, cR cI (b 4) 12 f_5] := hD
      refine W.eq (g2 := F0 m 29 ls [.int (zI (((it (rdc (mus n κ ν) k) (q2 % rl (rdc (mus n κ ν) k) n q1) q1) : Nat) : Int))]) rfl ?_
      refine lv_goto (tgt := 34) hx hb dX4_after_29 (by decide) ?_
      rw [← hQf]
      exact z_iret K hS (t_1, t_2, t_3, t_4, f_5) (by first | (simp only [fAfter, chk_t (show q1 < n by omega)]; rw [chk_f (by omega)]; done) | simp only [fAfter, chk_t (show q1 < n by omega), chk_t (show q2 < 1000000001 by omega)]) hP hD dX4_after_34
  · have b_5 := b01_eq c_5
    refine lv_bipush (v := zI (-101)) hx hb dX4_after_8 (by decide) ?_
    rw [← hQf]
    exact z_iret K hS (s0, s1, s2, s3, f) (by simp only [fAfter, chk_f b_5]) hP hD dX4_after_10
set_option maxHeartbeats 4000000 in
set_option maxRecDepth 100000 in
theorem c_X4_rings (l : Launch) (D : va_G) (cI : ClassId) (h : Nat) (b : Nat → Nat) (pm n k d rr hd sm : Nat) (kr kq ku s0 s1 s2 s3 s4 s5 hs : Int) (g0 g1 g3 gq : Nat → Int) (κ ν π ss sf st : Nat → Nat) (f : Nat → Int) (y1 : Int) (hT : MI n k d sm g0 g1 g3 gq κ ν π ss sf st) (hy1 : -2147483648 ≤ y1 ∧ y1 < 2147483648) : zMi l yX4_rings cX4_rings 2 (some .int) ({ frames := 7, cells := 0, slots := 0, locals := 160 }) D cI [.ref h, .int (zI y1)] [cM h b ((pm : Nat) : Int) ((n : Nat) : Int) ((k : Nat) : Int) ((d : Nat) : Int) ((rr : Nat) : Int) ((hd : Nat) : Int) ((sm : Nat) : Int) kr kq ku s0 s1 s2 s3 s4 s5 hs, cR cI (b 1) 6 g0, cR cI (b 2) 6 g1, cR cI (b 4) 12 f] (fun (z : Int) (u : (Int) × (Int) × (Int) × (Int) × (Nat → Int)) => z = (fRings n k κ ν y1)) (fun (u : (Int) × (Int) × (Int) × (Int) × (Nat → Int)) => [cM h b ((pm : Nat) : Int) ((n : Nat) : Int) ((k : Nat) : Int) ((d : Nat) : Int) ((rr : Nat) : Int) ((hd : Nat) : Int) ((sm : Nat) : Int) kr kq ku u.1 u.2.1 u.2.2.1 u.2.2.2.1 s4 s5 hs, cR cI (b 1) 6 g0, cR cI (b 2) 6 g1, cR cI (b 4) 12 u.2.2.2.2]) := by
  intro sz
  refine zstart rfl (by decide) (Nat.le_of_ble_eq_true rfl) ?_
  intro p e s m below meth c ls K hnm hsz hP hD hS hl
  generalize hargs : ([.ref h, .int (zI y1)] : List Value).toArray = args at K ⊢
  generalize hQf : MQ below _ args s _ _ _ = Qf
  have K : zK p s m args meth c cX4_rings 2 RX4 (some .int) D cI := K
  obtain ⟨hx, hb, hml, hown, hts, hE, -, -⟩ := id K
  have hA := zhA (ws0 := [cM h b ((pm : Nat) : Int) ((n : Nat) : Int) ((k : Nat) : Int) ((d : Nat) : Int) ((rr : Nat) : Int) ((hd : Nat) : Int) ((sm : Nat) : Int) kr kq ku s0 s1 s2 s3 s4 s5 hs, cR cI (b 1) 6 g0, cR cI (b 2) 6 g1, cR cI (b 4) 12 f]) hsz
  have hl : lv_has ls 2 [(0, .ref h), (1, .int (zI y1))] := hl
  obtain ⟨hnk0, hd0, hv, hg0, hκ, hg1, hν, hg3, hπ, hπi, hq0, hss, hq1, hsf, hq2, hst⟩ := id hT
  have hn12 : n ≤ 12 := by omega
  have hk : k ≤ 6 := by omega
  refine lv_iload_n hx hb dX4_rings_0 rfl (lv_at hl 1 rfl) ?_
  refine z_i2l hx hb (by omega) dX4_rings_1 ?_
  refine lv_lconst (v := zL 0) hx hb dX4_rings_2 (by decide) ?_
  refine lv_ldc2 (v := zL 3) hx hb hown (hts _ qk_X4_158) dX4_rings_3 ?_
  refine zcall_i (wc := []) (wr := [cM h b ((pm : Nat) : Int) ((n : Nat) : Int) ((k : Nat) : Int) ((d : Nat) : Int) ((rr : Nat) : Int) ((hd : Nat) : Int) ((sm : Nat) : Int) kr kq ku s0 s1 s2 s3 s4 s5 hs, cR cI (b 1) 6 g0, cR cI (b 2) 6 g1, cR cI (b 4) 12 f]) (rest := []) hE hP hD hS hA [] [0, 1, 2, 3] [0, 1, 2, 3] rfl rfl (by decide) (by decide) (by decide) (fun (u : Unit) => [cM h b ((pm : Nat) : Int) ((n : Nat) : Int) ((k : Nat) : Int) ((d : Nat) : Int) ((rr : Nat) : Int) ((hd : Nat) : Int) ((sm : Nat) : Int) kr kq ku s0 s1 s2 s3 s4 s5 hs, cR cI (b 1) 6 g0, cR cI (b 2) 6 g1, cR cI (b 4) 12 f]) (fun u => rfl) (fun hPc hDc => zrunS (As := [.long (zL y1), .long (zL 0), .long (zL 3)]) (rest := []) K k_X4_in qm_X4_61 ⟨⟨rfl, rfl⟩, ⟨Nat.le_of_ble_eq_true rfl, Nat.le_of_ble_eq_true rfl⟩⟩ hPc hDc (c_X4_in l D cI y1 0 3 (by first | assumption | omega) (by first | assumption | omega) (by first | assumption | omega) _) rfl hl.1 rfl (Nat.le_of_ble_eq_true rfl) dX4_rings_6 ⟨Nat.zero_le _, Nat.zero_le _⟩) (by decide) (fun z u H locs hpost hP hD hS => ?_)
  subst hpost
  have hP : va_P D cls [cM h b ((pm : Nat) : Int) ((n : Nat) : Int) ((k : Nat) : Int) ((d : Nat) : Int) ((rr : Nat) : Int) ((hd : Nat) : Int) ((sm : Nat) : Int) kr kq ku s0 s1 s2 s3 s4 s5 hs, cR cI (b 1) 6 g0, cR cI (b 2) 6 g1, cR cI (b 4) 12 f] H := hP
  have hD : va_D (va_A [cM h b ((pm : Nat) : Int) ((n : Nat) : Int) ((k : Nat) : Int) ((d : Nat) : Int) ((rr : Nat) : Int) ((hd : Nat) : Int) ((sm : Nat) : Int) kr kq ku s0 s1 s2 s3 s4 s5 hs, cR cI (b 1) 6 g0, cR cI (b 2) 6 g1, cR cI (b 4) 12 f] sz) [cM h b ((pm : Nat) : Int) ((n : Nat) : Int) ((k : Nat) : Int) ((d : Nat) : Int) ((rr : Nat) : Int) ((hd : Nat) : Int) ((sm : Nat) : Int) kr kq ku s0 s1 s2 s3 s4 s5 hs, cR cI (b 1) 6 g0, cR cI (b 2) 6 g1, cR cI (b 4) 12 f] := hD
  refine W.eq (g2 := F0 m 9 ls [.int (zI (b01 (0 ≤ y1 ∧ y1 ≤ 3)))]) rfl ?_
  refine z_if_ne (tgt := 15) hx hb (by have := b01_r (0 ≤ y1 ∧ y1 ≤ 3); omega) dX4_rings_9 (by decide) (fun c_9 => ?_) (fun c_9 => ?_)
  · have b_9 := b01_ne c_9
    obtain ⟨q1, rfl⟩ : ∃ q : Nat, y1 = (q : Int) := ⟨y1.toNat, by omega⟩
    refine lv_aload_n hx hb dX4_rings_15 rfl (lv_at hl 0 rfl) ?_
    refine zcall_i (wc := [cM h b ((pm : Nat) : Int) ((n : Nat) : Int) ((k : Nat) : Int) ((d : Nat) : Int) ((rr : Nat) : Int) ((hd : Nat) : Int) ((sm : Nat) : Int) kr kq ku s0 s1 s2 s3 s4 s5 hs]) (wr := [cR cI (b 1) 6 g0, cR cI (b 2) 6 g1, cR cI (b 4) 12 f]) (rest := []) hE hP hD hS hA [0] [1, 2, 3] [3, 0, 1, 2] rfl rfl (by decide) (by decide) (by decide) (fun (u : Unit) => [cM h b ((pm : Nat) : Int) ((n : Nat) : Int) ((k : Nat) : Int) ((d : Nat) : Int) ((rr : Nat) : Int) ((hd : Nat) : Int) ((sm : Nat) : Int) kr kq ku s0 s1 s2 s3 s4 s5 hs, cR cI (b 1) 6 g0, cR cI (b 2) 6 g1, cR cI (b 4) 12 f]) (fun u => rfl) (fun hPc hDc => zrunV (As := []) (rest := []) (q0 := 0) (ci := 4) K k_X4_lacks qm_X4_160 ⟨⟨rfl, rfl⟩, ⟨Nat.le_of_ble_eq_true rfl, Nat.le_of_ble_eq_true rfl⟩⟩ rfl rfl hPc hDc (c_X4_lacks l D cI h b pm n k d rr hd sm kr kq ku s0 s1 s2 s3 s4 s5 hs (by first | assumption | omega) _) rfl hl.1 rfl (Nat.le_of_ble_eq_true rfl) dX4_rings_16 ⟨Nat.zero_le _, Nat.zero_le _⟩) (by decide) (fun z u H locs hpost hP hD hS => ?_)
    subst hpost
    have hP : va_P D cls [cM h b ((pm : Nat) : Int) ((n : Nat) : Int) ((k : Nat) : Int) ((d : Nat) : Int) ((rr : Nat) : Int) ((hd : Nat) : Int) ((sm : Nat) : Int) kr kq ku s0 s1 s2 s3 s4 s5 hs, cR cI (b 1) 6 g0, cR cI (b 2) 6 g1, cR cI (b 4) 12 f] H := hP
    have hD : va_D (va_A [cM h b ((pm : Nat) : Int) ((n : Nat) : Int) ((k : Nat) : Int) ((d : Nat) : Int) ((rr : Nat) : Int) ((hd : Nat) : Int) ((sm : Nat) : Int) kr kq ku s0 s1 s2 s3 s4 s5 hs, cR cI (b 1) 6 g0, cR cI (b 2) 6 g1, cR cI (b 4) 12 f] sz) [cM h b ((pm : Nat) : Int) ((n : Nat) : Int) ((k : Nat) : Int) ((d : Nat) : Int) ((rr : Nat) : Int) ((hd : Nat) : Int) ((sm : Nat) : Int) kr kq ku s0 s1 s2 s3 s4 s5 hs, cR cI (b 1) 6 g0, cR cI (b 2) 6 g1, cR cI (b 4) 12 f] := hD
    refine W.eq (g2 := F0 m 19 ls [.int (zI (b01 (k = 0)))]) rfl ?_
    refine z_if_eq (tgt := 27) hx hb (by have := b01_r (k = 0); omega) dX4_rings_19 (by decide) (fun c_19 => ?_) (fun c_19 => ?_)
    · have b_19 := b01_eq c_19
      refine lv_aload_n hx hb dX4_rings_27 rfl (lv_at hl 0 rfl) ?_
      refine lv_iload_n hx hb dX4_rings_28 rfl (lv_at hl 1 rfl) ?_
      have hn : 2 ≤ n ∧ n ≤ 12 := by omega
      refine zcall_i (wc := [cM h b ((pm : Nat) : Int) ((n : Nat) : Int) ((k : Nat) : Int) ((d : Nat) : Int) ((rr : Nat) : Int) ((hd : Nat) : Int) ((sm : Nat) : Int) kr kq ku s0 s1 s2 s3 s4 s5 hs, cR cI (b 1) 6 g0, cR cI (b 2) 6 g1, cR cI (b 4) 12 f]) (wr := []) (rest := []) hE hP hD hS hA [0, 1, 2, 3] [] [0, 1, 2, 3] rfl rfl (by decide) (by decide) (by decide) (fun (u : (Int) × (Int) × (Int) × (Int) × (Nat → Int)) => [cM h b ((pm : Nat) : Int) ((n : Nat) : Int) ((k : Nat) : Int) ((d : Nat) : Int) ((rr : Nat) : Int) ((hd : Nat) : Int) ((sm : Nat) : Int) kr kq ku u.1 u.2.1 u.2.2.1 u.2.2.2.1 s4 s5 hs, cR cI (b 1) 6 g0, cR cI (b 2) 6 g1, cR cI (b 4) 12 u.2.2.2.2]) (fun u => rfl) (fun hPc hDc => zrunV (As := [.int (zI ((q1 : Nat) : Int))]) (rest := []) (q0 := 0) (ci := 4) K k_X4_ringsOf qm_X4_164 ⟨⟨rfl, rfl⟩, ⟨Nat.le_of_ble_eq_true rfl, Nat.le_of_ble_eq_true rfl⟩⟩ rfl rfl hPc hDc (c_X4_ringsOf l D cI h b pm n k d rr hd sm kr kq ku s0 s1 s2 s3 s4 s5 hs g0 g1 κ ν f q1 (by first | assumption | omega) (by first | assumption | omega) (by first | assumption | omega) (by first | assumption | omega) (by first | assumption | omega) (by first | assumption | omega) (by first | assumption | omega) _) rfl hl.1 rfl (Nat.le_of_ble_eq_true rfl) dX4_rings_29 ⟨Nat.zero_le _, Nat.zero_le _⟩) (by decide) (fun z u H locs hpost hP hD hS => ?_)
      obtain ⟨t_1, t_2, t_3, t_4, f_5⟩ := u
      obtain ⟨rfl, hzr_29⟩ := hpost
      have hzr_29 : -2147483648 ≤ (fRng n (rdc (mus n κ ν) k) q1) ∧ (fRng n (rdc (mus n κ ν) k) q1) < 2147483648 := hzr_29
      have hP : va_P D cls [cM h b ((pm : Nat) : Int) ((n : Nat) : Int) ((k : Nat) : Int) ((d : Nat) : Int) ((rr : Nat) : Int) ((hd : Nat) : Int) ((sm : Nat) : Int) kr kq ku t_1 t_2 t_3 t_4 s4 s5 hs, cR cI (b 1) 6 g0, cR cI (b 2) 6 g1, cR cI (b 4) 12 f_5] H := hP
      have hD : va_D (va_A [cM h b ((pm : Nat) : Int) ((n : Nat) : Int) ((k : Nat) : Int) ((d : Nat) : Int) ((rr : Nat) : Int) ((hd : Nat) : Int) ((sm : Nat) : Int) kr kq ku s0 s1 s2 s3 s4 s5 hs, cR cI (b 1) 6 g0, cR cI (b 2) 6 g1, cR cI (b 4) 12 f] sz) [cM h b ((pm : Nat) : Int) ((n : Nat) : Int) ((k : Nat) : Int) ((d : Nat) : Int) ((rr : Nat) : Int) ((hd : Nat) : Int) ((sm : Nat) : Int) kr kq ku t_1 t_2 t_3 t_4 s4 s5 hs, cR cI (b 1) 6 g0, cR cI (b 2) 6 g1, cR cI (b 4) 12 f_5] := hD
      refine W.eq (g2 := F0 m 32 ls [.int (zI (fRng n (rdc (mus n κ ν) k) q1))]) rfl ?_
      rw [← hQf]
      exact z_iret K hS (t_1, t_2, t_3, t_4, f_5) (by simp only [fRings, chk_t (show q1 < 4 by omega)]; first | (rw [if_pos (by omega)]; done) | rw [if_neg (by omega)]) hP hD dX4_rings_32
    · have b_19 := b01_ne c_19
      refine lv_bipush (v := zI (-103)) hx hb dX4_rings_22 (by decide) ?_
      refine lv_goto (tgt := 32) hx hb dX4_rings_24 (by decide) ?_
      rw [← hQf]
      exact z_iret K hS (s0, s1, s2, s3, f) (by simp only [fRings, chk_t (show q1 < 4 by omega)]; first | (rw [if_pos (by omega)]; done) | rw [if_neg (by omega)]) hP hD dX4_rings_32
  · have b_9 := b01_eq c_9
    refine lv_bipush (v := zI (-102)) hx hb dX4_rings_12 (by decide) ?_
    rw [← hQf]
    exact z_iret K hS (s0, s1, s2, s3, f) (by rw [fRings, chk_f (by omega)]) hP hD dX4_rings_14
set_option maxHeartbeats 4000000 in
set_option maxRecDepth 100000 in
theorem c_X4_step (l : Launch) (D : va_G) (cI : ClassId) (h : Nat) (b : Nat → Nat) (pm n k d rr hd sm : Nat) (kr kq ku s0 s1 s2 s3 s4 s5 hs : Int) (g0 g1 g3 gq : Nat → Int) (κ ν π ss sf st : Nat → Nat) (f : Nat → Int) (y1 y2 : Int) (hT : MI n k d sm g0 g1 g3 gq κ ν π ss sf st) (hy1 : -2147483648 ≤ y1 ∧ y1 < 2147483648) (hy2 : -2147483648 ≤ y2 ∧ y2 < 2147483648) : zMi l yX4_step cX4_step 3 (some .int) ({ frames := 6, cells := 0, slots := 0, locals := 149 }) D cI [.ref h, .int (zI y1), .int (zI y2)] [cM h b ((pm : Nat) : Int) ((n : Nat) : Int) ((k : Nat) : Int) ((d : Nat) : Int) ((rr : Nat) : Int) ((hd : Nat) : Int) ((sm : Nat) : Int) kr kq ku s0 s1 s2 s3 s4 s5 hs, cR cI (b 1) 6 g0, cR cI (b 2) 6 g1, cR cI (b 4) 12 f, cR cI (b 10) 18 gq] (fun (z : Int) (u : (Int) × (Int) × (Int) × (Int) × (Nat → Int)) => z = (fStep n k κ ν sm ss sf st y1 y2)) (fun (u : (Int) × (Int) × (Int) × (Int) × (Nat → Int)) => [cM h b ((pm : Nat) : Int) ((n : Nat) : Int) ((k : Nat) : Int) ((d : Nat) : Int) ((rr : Nat) : Int) ((hd : Nat) : Int) ((sm : Nat) : Int) kr kq ku u.1 u.2.1 u.2.2.1 u.2.2.2.1 s4 s5 hs, cR cI (b 1) 6 g0, cR cI (b 2) 6 g1, cR cI (b 4) 12 u.2.2.2.2, cR cI (b 10) 18 gq]) := by
  intro sz
  refine zstart rfl (by decide) (Nat.le_of_ble_eq_true rfl) ?_
  intro p e s m below meth c ls K hnm hsz hP hD hS hl
  generalize hargs : ([.ref h, .int (zI y1), .int (zI y2)] : List Value).toArray = args at K ⊢
  generalize hQf : MQ below _ args s _ _ _ = Qf
  have K : zK p s m args meth c cX4_step 3 RX4 (some .int) D cI := K
  obtain ⟨hx, hb, hml, hown, hts, hE, -, -⟩ := id K
  have hA := zhA (ws0 := [cM h b ((pm : Nat) : Int) ((n : Nat) : Int) ((k : Nat) : Int) ((d : Nat) : Int) ((rr : Nat) : Int) ((hd : Nat) : Int) ((sm : Nat) : Int) kr kq ku s0 s1 s2 s3 s4 s5 hs, cR cI (b 1) 6 g0, cR cI (b 2) 6 g1, cR cI (b 4) 12 f, cR cI (b 10) 18 gq]) hsz
  have hl : lv_has ls 3 [(0, .ref h), (1, .int (zI y1)), (2, .int (zI y2))] := hl
  obtain ⟨hnk0, hd0, hv, hg0, hκ, hg1, hν, hg3, hπ, hπi, hq0, hss, hq1, hsf, hq2, hst⟩ := id hT
  have hn12 : n ≤ 12 := by omega
  have hk : k ≤ 6 := by omega
  refine lv_aload_n hx hb dX4_step_0 rfl (lv_at hl 0 rfl) ?_
  refine lv_iload_n hx hb dX4_step_1 rfl (lv_at hl 1 rfl) ?_
  refine zcall_i (wc := [cM h b ((pm : Nat) : Int) ((n : Nat) : Int) ((k : Nat) : Int) ((d : Nat) : Int) ((rr : Nat) : Int) ((hd : Nat) : Int) ((sm : Nat) : Int) kr kq ku s0 s1 s2 s3 s4 s5 hs]) (wr := [cR cI (b 1) 6 g0, cR cI (b 2) 6 g1, cR cI (b 4) 12 f, cR cI (b 10) 18 gq]) (rest := []) hE hP hD hS hA [0] [1, 2, 3, 4] [4, 0, 1, 2, 3] rfl rfl (by decide) (by decide) (by decide) (fun (u : Unit) => [cM h b ((pm : Nat) : Int) ((n : Nat) : Int) ((k : Nat) : Int) ((d : Nat) : Int) ((rr : Nat) : Int) ((hd : Nat) : Int) ((sm : Nat) : Int) kr kq ku s0 s1 s2 s3 s4 s5 hs, cR cI (b 1) 6 g0, cR cI (b 2) 6 g1, cR cI (b 4) 12 f, cR cI (b 10) 18 gq]) (fun u => rfl) (fun hPc hDc => zrunV (As := [.int (zI y1)]) (rest := []) (q0 := 0) (ci := 4) K k_X4_isStep qm_X4_122 ⟨⟨rfl, rfl⟩, ⟨Nat.le_of_ble_eq_true rfl, Nat.le_of_ble_eq_true rfl⟩⟩ rfl rfl hPc hDc (c_X4_isStep l D cI h b pm n k d rr hd sm kr kq ku s0 s1 s2 s3 s4 s5 hs y1 (by first | assumption | omega) (by first | assumption | omega) _) rfl hl.1 rfl (Nat.le_of_ble_eq_true rfl) dX4_step_2 ⟨Nat.zero_le _, Nat.zero_le _⟩) (by decide) (fun z u H locs hpost hP hD hS => ?_)
  subst hpost
  have hP : va_P D cls [cM h b ((pm : Nat) : Int) ((n : Nat) : Int) ((k : Nat) : Int) ((d : Nat) : Int) ((rr : Nat) : Int) ((hd : Nat) : Int) ((sm : Nat) : Int) kr kq ku s0 s1 s2 s3 s4 s5 hs, cR cI (b 1) 6 g0, cR cI (b 2) 6 g1, cR cI (b 4) 12 f, cR cI (b 10) 18 gq] H := hP
  have hD : va_D (va_A [cM h b ((pm : Nat) : Int) ((n : Nat) : Int) ((k : Nat) : Int) ((d : Nat) : Int) ((rr : Nat) : Int) ((hd : Nat) : Int) ((sm : Nat) : Int) kr kq ku s0 s1 s2 s3 s4 s5 hs, cR cI (b 1) 6 g0, cR cI (b 2) 6 g1, cR cI (b 4) 12 f, cR cI (b 10) 18 gq] sz) [cM h b ((pm : Nat) : Int) ((n : Nat) : Int) ((k : Nat) : Int) ((d : Nat) : Int) ((rr : Nat) : Int) ((hd : Nat) : Int) ((sm : Nat) : Int) kr kq ku s0 s1 s2 s3 s4 s5 hs, cR cI (b 1) 6 g0, cR cI (b 2) 6 g1, cR cI (b 4) 12 f, cR cI (b 10) 18 gq] := hD
  refine W.eq (g2 := F0 m 5 ls [.int (zI (b01 (0 ≤ y1 ∧ y1 < k)))]) rfl ?_
  refine z_if_eq (tgt := 17) hx hb (by have := b01_r (0 ≤ y1 ∧ y1 < k); omega) dX4_step_5 (by decide) (fun c_5 => ?_) (fun c_5 => ?_)
  · have b_5 := b01_eq c_5
    refine lv_bipush (v := zI (-101)) hx hb dX4_step_17 (by decide) ?_
    rw [← hQf]
    exact z_iret K hS (s0, s1, s2, s3, f) (by first | (simp only [fStep, chk_f b_5]; done) | simp only [fStep, chk_t (show q1 < k by omega)]) hP hD dX4_step_19
  · have b_5 := b01_ne c_5
    obtain ⟨q1, rfl⟩ : ∃ q : Nat, y1 = (q : Int) := ⟨y1.toNat, by omega⟩
    have hn : 2 ≤ n ∧ n ≤ 12 := by omega
    refine lv_aload_n hx hb dX4_step_8 rfl (lv_at hl 0 rfl) ?_
    refine lv_iload_n hx hb dX4_step_9 rfl (lv_at hl 1 rfl) ?_
    refine lv_iload_n hx hb dX4_step_10 rfl (lv_at hl 2 rfl) ?_
    refine zcall_i (wc := [cM h b ((pm : Nat) : Int) ((n : Nat) : Int) ((k : Nat) : Int) ((d : Nat) : Int) ((rr : Nat) : Int) ((hd : Nat) : Int) ((sm : Nat) : Int) kr kq ku s0 s1 s2 s3 s4 s5 hs, cR cI (b 1) 6 g0, cR cI (b 2) 6 g1, cR cI (b 4) 12 f, cR cI (b 10) 18 gq]) (wr := []) (rest := []) hE hP hD hS hA [0, 1, 2, 3, 4] [] [0, 1, 2, 3, 4] rfl rfl (by decide) (by decide) (by decide) (fun (u : (Int) × (Int) × (Int) × (Int) × (Nat → Int)) => [cM h b ((pm : Nat) : Int) ((n : Nat) : Int) ((k : Nat) : Int) ((d : Nat) : Int) ((rr : Nat) : Int) ((hd : Nat) : Int) ((sm : Nat) : Int) kr kq ku u.1 u.2.1 u.2.2.1 u.2.2.2.1 s4 s5 hs, cR cI (b 1) 6 g0, cR cI (b 2) 6 g1, cR cI (b 4) 12 u.2.2.2.2, cR cI (b 10) 18 gq]) (fun u => rfl) (fun hPc hDc => zrunV (As := [.int (zI ((q1 : Nat) : Int)), .int (zI y2)]) (rest := []) (q0 := 0) (ci := 4) K k_X4_tellStep qm_X4_181 ⟨⟨rfl, rfl⟩, ⟨Nat.le_of_ble_eq_true rfl, Nat.le_of_ble_eq_true rfl⟩⟩ rfl rfl hPc hDc (c_X4_tellStep l D cI h b pm n k d rr hd sm kr kq ku s0 s1 s2 s3 s4 s5 hs g0 g1 κ ν gq ss sf st f q1 y2 (by first | assumption | omega) (by first | assumption | omega) (by first | assumption | omega) (by first | assumption | omega) (by first | assumption | omega) (by first | assumption | omega) (by first | assumption | omega) (by first | assumption | omega) (by first | assumption | omega) (by first | assumption | omega) (by first | assumption | omega) (by first | assumption | omega) (by first | assumption | omega) (by first | assumption | omega) (by first | assumption | omega) _) rfl hl.1 rfl (Nat.le_of_ble_eq_true rfl) dX4_step_11 ⟨Nat.zero_le _, Nat.zero_le _⟩) (by decide) (fun z u H locs hpost hP hD hS => ?_)
    obtain ⟨t_1, t_2, t_3, t_4, f_5⟩ := u
    obtain ⟨rfl, hzr_11⟩ := hpost
    have hzr_11 : -2147483648 ≤ (fStp n κ ν sm ss sf st q1 y2) ∧ (fStp n κ ν sm ss sf st q1 y2) < 2147483648 := hzr_11
    have hP : va_P D cls [cM h b ((pm : Nat) : Int) ((n : Nat) : Int) ((k : Nat) : Int) ((d : Nat) : Int) ((rr : Nat) : Int) ((hd : Nat) : Int) ((sm : Nat) : Int) kr kq ku t_1 t_2 t_3 t_4 s4 s5 hs, cR cI (b 1) 6 g0, cR cI (b 2) 6 g1, cR cI (b 4) 12 f_5, cR cI (b 10) 18 gq] H := hP
    have hD : va_D (va_A [cM h b ((pm : Nat) : Int) ((n : Nat) : Int) ((k : Nat) : Int) ((d : Nat) : Int) ((rr : Nat) : Int) ((hd : Nat) : Int) ((sm : Nat) : Int) kr kq ku s0 s1 s2 s3 s4 s5 hs, cR cI (b 1) 6 g0, cR cI (b 2) 6 g1, cR cI (b 4) 12 f, cR cI (b 10) 18 gq] sz) [cM h b ((pm : Nat) : Int) ((n : Nat) : Int) ((k : Nat) : Int) ((d : Nat) : Int) ((rr : Nat) : Int) ((hd : Nat) : Int) ((sm : Nat) : Int) kr kq ku t_1 t_2 t_3 t_4 s4 s5 hs, cR cI (b 1) 6 g0, cR cI (b 2) 6 g1, cR cI (b 4) 12 f_5, cR cI (b 10) 18 gq] := hD
    refine W.eq (g2 := F0 m 14 ls [.int (zI (fStp n κ ν sm ss sf st q1 y2))]) rfl ?_
    refine lv_goto (tgt := 19) hx hb dX4_step_14 (by decide) ?_
    rw [← hQf]
    exact z_iret K hS (t_1, t_2, t_3, t_4, f_5) (by first | (simp only [fStep, chk_f b_5]; done) | simp only [fStep, chk_t (show q1 < k by omega)]) hP hD dX4_step_19
set_option maxHeartbeats 4000000 in
set_option maxRecDepth 100000 in
theorem c_X4_as (l : Launch) (D : va_G) (cI : ClassId) (h : Nat) (b : Nat → Nat) (pm n k d rr hd sm : Nat) (kr kq ku s0 s1 s2 s3 s4 s5 hs : Int) (g0 g1 g3 gq : Nat → Int) (κ ν π ss sf st : Nat → Nat) (y1 y2 : Int) (hT : MI n k d sm g0 g1 g3 gq κ ν π ss sf st) (hy1 : -2147483648 ≤ y1 ∧ y1 < 2147483648) (hy2 : -2147483648 ≤ y2 ∧ y2 < 2147483648) : zMi l yX4_as cX4_as 4 (some .int) ({ frames := 2, cells := 0, slots := 0, locals := 46 }) D cI [.ref h, .int (zI y1), .int (zI y2)] [cM h b ((pm : Nat) : Int) ((n : Nat) : Int) ((k : Nat) : Int) ((d : Nat) : Int) ((rr : Nat) : Int) ((hd : Nat) : Int) ((sm : Nat) : Int) kr kq ku s0 s1 s2 s3 s4 s5 hs, cR cI (b 1) 6 g0] (fun (z : Int) (u : Unit) => z = (fAs k κ y1 y2)) (fun (u : Unit) => [cM h b ((pm : Nat) : Int) ((n : Nat) : Int) ((k : Nat) : Int) ((d : Nat) : Int) ((rr : Nat) : Int) ((hd : Nat) : Int) ((sm : Nat) : Int) kr kq ku s0 s1 s2 s3 s4 s5 hs, cR cI (b 1) 6 g0]) := by
  intro sz
  refine zstart rfl (by decide) (Nat.le_of_ble_eq_true rfl) ?_
  intro p e s m below meth c ls K hnm hsz hP hD hS hl
  generalize hargs : ([.ref h, .int (zI y1), .int (zI y2)] : List Value).toArray = args at K ⊢
  generalize hQf : MQ below _ args s _ _ _ = Qf
  have K : zK p s m args meth c cX4_as 4 RX4 (some .int) D cI := K
  obtain ⟨hx, hb, hml, hown, hts, hE, -, -⟩ := id K
  have hA := zhA (ws0 := [cM h b ((pm : Nat) : Int) ((n : Nat) : Int) ((k : Nat) : Int) ((d : Nat) : Int) ((rr : Nat) : Int) ((hd : Nat) : Int) ((sm : Nat) : Int) kr kq ku s0 s1 s2 s3 s4 s5 hs, cR cI (b 1) 6 g0]) hsz
  have hl : lv_has ls 4 [(0, .ref h), (1, .int (zI y1)), (2, .int (zI y2))] := hl
  obtain ⟨hnk0, hd0, hv, hg0, hκ, hg1, hν, hg3, hπ, hπi, hq0, hss, hq1, hsf, hq2, hst⟩ := id hT
  have hn12 : n ≤ 12 := by omega
  have hk : k ≤ 6 := by omega
  refine lv_aload_n hx hb dX4_as_0 rfl (lv_at hl 0 rfl) ?_
  refine lv_iload_n hx hb dX4_as_1 rfl (lv_at hl 1 rfl) ?_
  refine zcall_i (wc := [cM h b ((pm : Nat) : Int) ((n : Nat) : Int) ((k : Nat) : Int) ((d : Nat) : Int) ((rr : Nat) : Int) ((hd : Nat) : Int) ((sm : Nat) : Int) kr kq ku s0 s1 s2 s3 s4 s5 hs]) (wr := [cR cI (b 1) 6 g0]) (rest := []) hE hP hD hS hA [0] [1] [1, 0] rfl rfl (by decide) (by decide) (by decide) (fun (u : Unit) => [cM h b ((pm : Nat) : Int) ((n : Nat) : Int) ((k : Nat) : Int) ((d : Nat) : Int) ((rr : Nat) : Int) ((hd : Nat) : Int) ((sm : Nat) : Int) kr kq ku s0 s1 s2 s3 s4 s5 hs, cR cI (b 1) 6 g0]) (fun u => rfl) (fun hPc hDc => zrunV (As := [.int (zI y1)]) (rest := []) (q0 := 0) (ci := 4) K k_X4_isStep qm_X4_122 ⟨⟨rfl, rfl⟩, ⟨Nat.le_of_ble_eq_true rfl, Nat.le_of_ble_eq_true rfl⟩⟩ rfl rfl hPc hDc (c_X4_isStep l D cI h b pm n k d rr hd sm kr kq ku s0 s1 s2 s3 s4 s5 hs y1 (by first | assumption | omega) (by first | assumption | omega) _) rfl hl.1 rfl (Nat.le_of_ble_eq_true rfl) dX4_as_2 ⟨Nat.zero_le _, Nat.zero_le _⟩) (by decide) (fun z u H locs hpost hP hD hS => ?_)
  subst hpost
  have hP : va_P D cls [cM h b ((pm : Nat) : Int) ((n : Nat) : Int) ((k : Nat) : Int) ((d : Nat) : Int) ((rr : Nat) : Int) ((hd : Nat) : Int) ((sm : Nat) : Int) kr kq ku s0 s1 s2 s3 s4 s5 hs, cR cI (b 1) 6 g0] H := hP
  have hD : va_D (va_A [cM h b ((pm : Nat) : Int) ((n : Nat) : Int) ((k : Nat) : Int) ((d : Nat) : Int) ((rr : Nat) : Int) ((hd : Nat) : Int) ((sm : Nat) : Int) kr kq ku s0 s1 s2 s3 s4 s5 hs, cR cI (b 1) 6 g0] sz) [cM h b ((pm : Nat) : Int) ((n : Nat) : Int) ((k : Nat) : Int) ((d : Nat) : Int) ((rr : Nat) : Int) ((hd : Nat) : Int) ((sm : Nat) : Int) kr kq ku s0 s1 s2 s3 s4 s5 hs, cR cI (b 1) 6 g0] := hD
  refine W.eq (g2 := F0 m 5 ls [.int (zI (b01 (0 ≤ y1 ∧ y1 < k)))]) rfl ?_
  refine z_if_ne (tgt := 11) hx hb (by have := b01_r (0 ≤ y1 ∧ y1 < k); omega) dX4_as_5 (by decide) (fun c_5 => ?_) (fun c_5 => ?_)
  · have b_5 := b01_ne c_5
    obtain ⟨q1, rfl⟩ : ∃ q : Nat, y1 = (q : Int) := ⟨y1.toNat, by omega⟩
    have hκq := hκ q1 (by omega)
    refine lv_iload_n hx hb dX4_as_11 rfl (lv_at hl 2 rfl) ?_
    refine z_i2l hx hb (by omega) dX4_as_12 ?_
    refine lv_lconst (v := zL 0) hx hb dX4_as_13 (by decide) ?_
    refine lv_ldc2 (v := zL 4) hx hb hown (hts _ qk_X4_184) dX4_as_14 ?_
    refine zcall_i (wc := []) (wr := [cM h b ((pm : Nat) : Int) ((n : Nat) : Int) ((k : Nat) : Int) ((d : Nat) : Int) ((rr : Nat) : Int) ((hd : Nat) : Int) ((sm : Nat) : Int) kr kq ku s0 s1 s2 s3 s4 s5 hs, cR cI (b 1) 6 g0]) (rest := []) hE hP hD hS hA [] [0, 1] [0, 1] rfl rfl (by decide) (by decide) (by decide) (fun (u : Unit) => [cM h b ((pm : Nat) : Int) ((n : Nat) : Int) ((k : Nat) : Int) ((d : Nat) : Int) ((rr : Nat) : Int) ((hd : Nat) : Int) ((sm : Nat) : Int) kr kq ku s0 s1 s2 s3 s4 s5 hs, cR cI (b 1) 6 g0]) (fun u => rfl) (fun hPc hDc => zrunS (As := [.long (zL y2), .long (zL 0), .long (zL 4)]) (rest := []) K k_X4_in qm_X4_61 ⟨⟨rfl, rfl⟩, ⟨Nat.le_of_ble_eq_true rfl, Nat.le_of_ble_eq_true rfl⟩⟩ hPc hDc (c_X4_in l D cI y2 0 4 (by first | assumption | omega) (by first | assumption | omega) (by first | assumption | omega) _) rfl hl.1 rfl (Nat.le_of_ble_eq_true rfl) dX4_as_17 ⟨Nat.zero_le _, Nat.zero_le _⟩) (by decide) (fun z u H locs hpost hP hD hS => ?_)
    subst hpost
    have hP : va_P D cls [cM h b ((pm : Nat) : Int) ((n : Nat) : Int) ((k : Nat) : Int) ((d : Nat) : Int) ((rr : Nat) : Int) ((hd : Nat) : Int) ((sm : Nat) : Int) kr kq ku s0 s1 s2 s3 s4 s5 hs, cR cI (b 1) 6 g0] H := hP
    have hD : va_D (va_A [cM h b ((pm : Nat) : Int) ((n : Nat) : Int) ((k : Nat) : Int) ((d : Nat) : Int) ((rr : Nat) : Int) ((hd : Nat) : Int) ((sm : Nat) : Int) kr kq ku s0 s1 s2 s3 s4 s5 hs, cR cI (b 1) 6 g0] sz) [cM h b ((pm : Nat) : Int) ((n : Nat) : Int) ((k : Nat) : Int) ((d : Nat) : Int) ((rr : Nat) : Int) ((hd : Nat) : Int) ((sm : Nat) : Int) kr kq ku s0 s1 s2 s3 s4 s5 hs, cR cI (b 1) 6 g0] := hD
    refine W.eq (g2 := F0 m 20 ls [.int (zI (b01 (0 ≤ y2 ∧ y2 ≤ 4)))]) rfl ?_
    refine z_if_ne (tgt := 26) hx hb (by have := b01_r (0 ≤ y2 ∧ y2 ≤ 4); omega) dX4_as_20 (by decide) (fun c_20 => ?_) (fun c_20 => ?_)
    · have b_20 := b01_ne c_20
      obtain ⟨q2, rfl⟩ : ∃ q : Nat, y2 = (q : Int) := ⟨y2.toNat, by omega⟩
      refine lv_iload_n hx hb dX4_as_26 rfl (lv_at hl 2 rfl) ?_
      refine z_if_eq (tgt := 55) hx hb (by omega) dX4_as_27 (by decide) (fun c_27 => ?_) (fun c_27 => ?_)
      · refine lv_iconst (v := zI 1) hx hb dX4_as_55 rfl ?_
        refine lv_goto (tgt := 60) hx hb dX4_as_56 (by decide) ?_
        refine lv_istore_n (lv' := [(3, .int (zI 1)), (0, .ref h), (1, .int (zI ((q1 : Nat) : Int))), (2, .int (zI ((q2 : Nat) : Int)))]) hx hb dX4_as_60 rfl hl (by decide) rfl (fun ls hl => ?_)
        refine lv_iload_n hx hb dX4_as_61 rfl (lv_at hl 0 rfl) ?_
        refine z_if_eq (tgt := 69) hx hb (by omega) dX4_as_62 (by decide) (fun c_62 => ?_) (fun c_62 => ?_)
        · exfalso; omega
        · refine lv_iload_n hx hb dX4_as_65 rfl (lv_at hl 2 rfl) ?_
          refine lv_goto (tgt := 70) hx hb dX4_as_66 (by decide) ?_
          rw [← hQf]
          exact z_iret K hS () (by simp only [fAs, chk_t (show q1 < k by omega), chk_t (show q2 < 5 by omega)]; first | (rw [if_neg (by omega)]; done) | rw [if_pos (by omega)]) hP hD dX4_as_70
      · refine lv_iload_n hx hb dX4_as_30 rfl (lv_at hl 2 rfl) ?_
        refine lv_aload_n hx hb dX4_as_31 rfl (lv_at hl 0 rfl) ?_
        refine va_get (D := D) (ci := 4) (v := .ref (b 1)) (C := RX4) (T := TX4) (N := 32) hx hb hts inT_X4 hown hE.1 hP 0 rfl rfl 6 (by decide) (hts _ qf_X4_13) (fun _ h9 => h9) rfl dX4_as_32 ?_
        refine lv_iload_n hx hb dX4_as_35 rfl (lv_at hl 1 rfl) ?_
        refine z_iald hx hb hE hP 1 rfl q1 (by omega) (by omega) (by first | decide | omega) ((κ q1 : Nat) : Int) (hg0 q1 (by omega)) dX4_as_36 ?_
        refine z_icmp_eq (tgt := 55) hx hb (by omega) dX4_as_37 (by decide) (fun c_37 => ?_) (fun c_37 => ?_)
        · refine lv_iconst (v := zI 1) hx hb dX4_as_55 rfl ?_
          refine lv_goto (tgt := 60) hx hb dX4_as_56 (by decide) ?_
          refine lv_istore_n (lv' := [(3, .int (zI 1)), (0, .ref h), (1, .int (zI ((q1 : Nat) : Int))), (2, .int (zI ((q2 : Nat) : Int)))]) hx hb dX4_as_60 rfl hl (by decide) rfl (fun ls hl => ?_)
          refine lv_iload_n hx hb dX4_as_61 rfl (lv_at hl 0 rfl) ?_
          refine z_if_eq (tgt := 69) hx hb (by omega) dX4_as_62 (by decide) (fun c_62 => ?_) (fun c_62 => ?_)
          · exfalso; omega
          · refine lv_iload_n hx hb dX4_as_65 rfl (lv_at hl 2 rfl) ?_
            refine lv_goto (tgt := 70) hx hb dX4_as_66 (by decide) ?_
            rw [← hQf]
            exact z_iret K hS () (by simp only [fAs, chk_t (show q1 < k by omega), chk_t (show q2 < 5 by omega)]; first | (rw [if_neg (by omega)]; done) | rw [if_pos (by omega)]) hP hD dX4_as_70
        · refine lv_iload_n hx hb dX4_as_40 rfl (lv_at hl 2 rfl) ?_
          refine lv_iconst (v := zI 2) hx hb dX4_as_41 rfl ?_
          refine z_icmp_ne (tgt := 59) hx hb (by omega) dX4_as_42 (by decide) (fun c_42 => ?_) (fun c_42 => ?_)
          · refine lv_iconst (v := zI 0) hx hb dX4_as_59 rfl ?_
            refine lv_istore_n (lv' := [(3, .int (zI 0)), (0, .ref h), (1, .int (zI ((q1 : Nat) : Int))), (2, .int (zI ((q2 : Nat) : Int)))]) hx hb dX4_as_60 rfl hl (by decide) rfl (fun ls hl => ?_)
            refine lv_iload_n hx hb dX4_as_61 rfl (lv_at hl 0 rfl) ?_
            refine z_if_eq (tgt := 69) hx hb (by omega) dX4_as_62 (by decide) (fun c_62 => ?_) (fun c_62 => ?_)
            · refine lv_iconst (v := zI (-1)) hx hb dX4_as_69 rfl ?_
              rw [← hQf]
              exact z_iret K hS () (by simp only [fAs, chk_t (show q1 < k by omega), chk_t (show q2 < 5 by omega)]; first | (rw [if_neg (by omega)]; done) | rw [if_pos (by omega)]) hP hD dX4_as_70
            · exfalso; omega
          · refine lv_aload_n hx hb dX4_as_45 rfl (lv_at hl 0 rfl) ?_
            refine va_get (D := D) (ci := 4) (v := .ref (b 1)) (C := RX4) (T := TX4) (N := 32) hx hb hts inT_X4 hown hE.1 hP 0 rfl rfl 6 (by decide) (hts _ qf_X4_13) (fun _ h9 => h9) rfl dX4_as_46 ?_
            refine lv_iload_n hx hb dX4_as_49 rfl (lv_at hl 1 rfl) ?_
            refine z_iald hx hb hE hP 1 rfl q1 (by omega) (by omega) (by first | decide | omega) ((κ q1 : Nat) : Int) (hg0 q1 (by omega)) dX4_as_50 ?_
            refine lv_iconst (v := zI 4) hx hb dX4_as_51 rfl ?_
            refine z_icmp_ne (tgt := 59) hx hb (by omega) dX4_as_52 (by decide) (fun c_52 => ?_) (fun c_52 => ?_)
            · refine lv_iconst (v := zI 0) hx hb dX4_as_59 rfl ?_
              refine lv_istore_n (lv' := [(3, .int (zI 0)), (0, .ref h), (1, .int (zI ((q1 : Nat) : Int))), (2, .int (zI ((q2 : Nat) : Int)))]) hx hb dX4_as_60 rfl hl (by decide) rfl (fun ls hl => ?_)
              refine lv_iload_n hx hb dX4_as_61 rfl (lv_at hl 0 rfl) ?_
              refine z_if_eq (tgt := 69) hx hb (by omega) dX4_as_62 (by decide) (fun c_62 => ?_) (fun c_62 => ?_)
              · refine lv_iconst (v := zI (-1)) hx hb dX4_as_69 rfl ?_
                rw [← hQf]
                exact z_iret K hS () (by simp only [fAs, chk_t (show q1 < k by omega), chk_t (show q2 < 5 by omega)]; first | (rw [if_neg (by omega)]; done) | rw [if_pos (by omega)]) hP hD dX4_as_70
              · exfalso; omega
            · refine lv_iconst (v := zI 1) hx hb dX4_as_55 rfl ?_
              refine lv_goto (tgt := 60) hx hb dX4_as_56 (by decide) ?_
              refine lv_istore_n (lv' := [(3, .int (zI 1)), (0, .ref h), (1, .int (zI ((q1 : Nat) : Int))), (2, .int (zI ((q2 : Nat) : Int)))]) hx hb dX4_as_60 rfl hl (by decide) rfl (fun ls hl => ?_)
              refine lv_iload_n hx hb dX4_as_61 rfl (lv_at hl 0 rfl) ?_
              refine z_if_eq (tgt := 69) hx hb (by omega) dX4_as_62 (by decide) (fun c_62 => ?_) (fun c_62 => ?_)
              · exfalso; omega
              · refine lv_iload_n hx hb dX4_as_65 rfl (lv_at hl 2 rfl) ?_
                refine lv_goto (tgt := 70) hx hb dX4_as_66 (by decide) ?_
                rw [← hQf]
                exact z_iret K hS () (by simp only [fAs, chk_t (show q1 < k by omega), chk_t (show q2 < 5 by omega)]; first | (rw [if_neg (by omega)]; done) | rw [if_pos (by omega)]) hP hD dX4_as_70
    · have b_20 := b01_eq c_20
      refine lv_bipush (v := zI (-102)) hx hb dX4_as_23 (by decide) ?_
      rw [← hQf]
      exact z_iret K hS () (by simp only [fAs, chk_t (show q1 < k by omega)]; rw [chk_f (by omega)]) hP hD dX4_as_25
  · have b_5 := b01_eq c_5
    refine lv_bipush (v := zI (-101)) hx hb dX4_as_8 (by decide) ?_
    rw [← hQf]
    exact z_iret K hS () (by simp only [fAs, chk_f b_5]) hP hD dX4_as_10
set_option maxHeartbeats 4000000 in
set_option maxRecDepth 100000 in
theorem c_X4_bring (l : Launch) (D : va_G) (cI : ClassId) (h : Nat) (b : Nat → Nat) (pm n k d rr hd sm : Nat) (kr kq ku s0 s1 s2 s3 s4 s5 hs : Int) (g0 g1 g3 gq : Nat → Int) (κ ν π ss sf st : Nat → Nat) (q7 : Nat → Int) (y1 y2 y3 : Int) (hT : MI n k d sm g0 g1 g3 gq κ ν π ss sf st) (hy1 : -2147483648 ≤ y1 ∧ y1 < 2147483648) (hy2 : -2147483648 ≤ y2 ∧ y2 < 2147483648) (hy3 : -2147483648 ≤ y3 ∧ y3 < 2147483648) : zMi l yX4_bring cX4_bring 4 (some .int) ({ frames := 6, cells := 0, slots := 0, locals := 144 }) D cI [.ref h, .int (zI y1), .int (zI y2), .int (zI y3)] [cM h b ((pm : Nat) : Int) ((n : Nat) : Int) ((k : Nat) : Int) ((d : Nat) : Int) ((rr : Nat) : Int) ((hd : Nat) : Int) ((sm : Nat) : Int) kr kq ku s0 s1 s2 s3 s4 s5 hs, cR cI (b 1) 6 g0, cR cI (b 2) 6 g1, cR cI (b 3) 12 g3, cR cI (b 7) 12 q7] (fun (z : Int) (u : (Nat → Int)) => z = (fBring n k κ ν π y1 y2 y3)) (fun (u : (Nat → Int)) => [cM h b ((pm : Nat) : Int) ((n : Nat) : Int) ((k : Nat) : Int) ((d : Nat) : Int) ((rr : Nat) : Int) ((hd : Nat) : Int) ((sm : Nat) : Int) kr kq ku s0 s1 s2 s3 s4 s5 hs, cR cI (b 1) 6 g0, cR cI (b 2) 6 g1, cR cI (b 3) 12 g3, cR cI (b 7) 12 u]) := by
  intro sz
  refine zstart rfl (by decide) (Nat.le_of_ble_eq_true rfl) ?_
  intro p e s m below meth c ls K hnm hsz hP hD hS hl
  generalize hargs : ([.ref h, .int (zI y1), .int (zI y2), .int (zI y3)] : List Value).toArray = args at K ⊢
  generalize hQf : MQ below _ args s _ _ _ = Qf
  have K : zK p s m args meth c cX4_bring 4 RX4 (some .int) D cI := K
  obtain ⟨hx, hb, hml, hown, hts, hE, -, -⟩ := id K
  have hA := zhA (ws0 := [cM h b ((pm : Nat) : Int) ((n : Nat) : Int) ((k : Nat) : Int) ((d : Nat) : Int) ((rr : Nat) : Int) ((hd : Nat) : Int) ((sm : Nat) : Int) kr kq ku s0 s1 s2 s3 s4 s5 hs, cR cI (b 1) 6 g0, cR cI (b 2) 6 g1, cR cI (b 3) 12 g3, cR cI (b 7) 12 q7]) hsz
  have hl : lv_has ls 4 [(0, .ref h), (1, .int (zI y1)), (2, .int (zI y2)), (3, .int (zI y3))] := hl
  obtain ⟨hnk0, hd0, hv, hg0, hκ, hg1, hν, hg3, hπ, hπi, hq0, hss, hq1, hsf, hq2, hst⟩ := id hT
  have hn12 : n ≤ 12 := by omega
  have hk : k ≤ 6 := by omega
  refine lv_aload_n hx hb dX4_bring_0 rfl (lv_at hl 0 rfl) ?_
  refine lv_iload_n hx hb dX4_bring_1 rfl (lv_at hl 1 rfl) ?_
  refine zcall_i (wc := [cM h b ((pm : Nat) : Int) ((n : Nat) : Int) ((k : Nat) : Int) ((d : Nat) : Int) ((rr : Nat) : Int) ((hd : Nat) : Int) ((sm : Nat) : Int) kr kq ku s0 s1 s2 s3 s4 s5 hs]) (wr := [cR cI (b 1) 6 g0, cR cI (b 2) 6 g1, cR cI (b 3) 12 g3, cR cI (b 7) 12 q7]) (rest := []) hE hP hD hS hA [0] [1, 2, 3, 4] [4, 0, 1, 2, 3] rfl rfl (by decide) (by decide) (by decide) (fun (u : Unit) => [cM h b ((pm : Nat) : Int) ((n : Nat) : Int) ((k : Nat) : Int) ((d : Nat) : Int) ((rr : Nat) : Int) ((hd : Nat) : Int) ((sm : Nat) : Int) kr kq ku s0 s1 s2 s3 s4 s5 hs, cR cI (b 1) 6 g0, cR cI (b 2) 6 g1, cR cI (b 3) 12 g3, cR cI (b 7) 12 q7]) (fun u => rfl) (fun hPc hDc => zrunV (As := [.int (zI y1)]) (rest := []) (q0 := 0) (ci := 4) K k_X4_isPlace qm_X4_125 ⟨⟨rfl, rfl⟩, ⟨Nat.le_of_ble_eq_true rfl, Nat.le_of_ble_eq_true rfl⟩⟩ rfl rfl hPc hDc (c_X4_isPlace l D cI h b pm n k d rr hd sm kr kq ku s0 s1 s2 s3 s4 s5 hs y1 (by first | assumption | omega) (by first | assumption | omega) _) rfl hl.1 rfl (Nat.le_of_ble_eq_true rfl) dX4_bring_2 ⟨Nat.zero_le _, Nat.zero_le _⟩) (by decide) (fun z u H locs hpost hP hD hS => ?_)
  subst hpost
  have hP : va_P D cls [cM h b ((pm : Nat) : Int) ((n : Nat) : Int) ((k : Nat) : Int) ((d : Nat) : Int) ((rr : Nat) : Int) ((hd : Nat) : Int) ((sm : Nat) : Int) kr kq ku s0 s1 s2 s3 s4 s5 hs, cR cI (b 1) 6 g0, cR cI (b 2) 6 g1, cR cI (b 3) 12 g3, cR cI (b 7) 12 q7] H := hP
  have hD : va_D (va_A [cM h b ((pm : Nat) : Int) ((n : Nat) : Int) ((k : Nat) : Int) ((d : Nat) : Int) ((rr : Nat) : Int) ((hd : Nat) : Int) ((sm : Nat) : Int) kr kq ku s0 s1 s2 s3 s4 s5 hs, cR cI (b 1) 6 g0, cR cI (b 2) 6 g1, cR cI (b 3) 12 g3, cR cI (b 7) 12 q7] sz) [cM h b ((pm : Nat) : Int) ((n : Nat) : Int) ((k : Nat) : Int) ((d : Nat) : Int) ((rr : Nat) : Int) ((hd : Nat) : Int) ((sm : Nat) : Int) kr kq ku s0 s1 s2 s3 s4 s5 hs, cR cI (b 1) 6 g0, cR cI (b 2) 6 g1, cR cI (b 3) 12 g3, cR cI (b 7) 12 q7] := hD
  refine W.eq (g2 := F0 m 5 ls [.int (zI (b01 (0 ≤ y1 ∧ y1 < n)))]) rfl ?_
  refine z_if_eq (tgt := 16) hx hb (by have := b01_r (0 ≤ y1 ∧ y1 < n); omega) dX4_bring_5 (by decide) (fun c_5 => ?_) (fun c_5 => ?_)
  · have b_5 := b01_eq c_5
    refine lv_bipush (v := zI (-101)) hx hb dX4_bring_16 (by decide) ?_
    rw [← hQf]
    exact z_iret K hS (q7) (by first | (simp only [fBring, chk_f b_5]; done) | simp only [fBring, chk_t (show q1 < n by omega), chk_f b_13]) hP hD dX4_bring_18
  · have b_5 := b01_ne c_5
    obtain ⟨q1, rfl⟩ : ∃ q : Nat, y1 = (q : Int) := ⟨y1.toNat, by omega⟩
    have hn : 2 ≤ n ∧ n ≤ 12 := by omega
    refine lv_aload_n hx hb dX4_bring_8 rfl (lv_at hl 0 rfl) ?_
    refine lv_iload_n hx hb dX4_bring_9 rfl (lv_at hl 2 rfl) ?_
    refine zcall_i (wc := [cM h b ((pm : Nat) : Int) ((n : Nat) : Int) ((k : Nat) : Int) ((d : Nat) : Int) ((rr : Nat) : Int) ((hd : Nat) : Int) ((sm : Nat) : Int) kr kq ku s0 s1 s2 s3 s4 s5 hs]) (wr := [cR cI (b 1) 6 g0, cR cI (b 2) 6 g1, cR cI (b 3) 12 g3, cR cI (b 7) 12 q7]) (rest := []) hE hP hD hS hA [0] [1, 2, 3, 4] [4, 0, 1, 2, 3] rfl rfl (by decide) (by decide) (by decide) (fun (u : Unit) => [cM h b ((pm : Nat) : Int) ((n : Nat) : Int) ((k : Nat) : Int) ((d : Nat) : Int) ((rr : Nat) : Int) ((hd : Nat) : Int) ((sm : Nat) : Int) kr kq ku s0 s1 s2 s3 s4 s5 hs, cR cI (b 1) 6 g0, cR cI (b 2) 6 g1, cR cI (b 3) 12 g3, cR cI (b 7) 12 q7]) (fun u => rfl) (fun hPc hDc => zrunV (As := [.int (zI y2)]) (rest := []) (q0 := 0) (ci := 4) K k_X4_isPlace qm_X4_125 ⟨⟨rfl, rfl⟩, ⟨Nat.le_of_ble_eq_true rfl, Nat.le_of_ble_eq_true rfl⟩⟩ rfl rfl hPc hDc (c_X4_isPlace l D cI h b pm n k d rr hd sm kr kq ku s0 s1 s2 s3 s4 s5 hs y2 (by first | assumption | omega) (by first | assumption | omega) _) rfl hl.1 rfl (Nat.le_of_ble_eq_true rfl) dX4_bring_10 ⟨Nat.zero_le _, Nat.zero_le _⟩) (by decide) (fun z u H locs hpost hP hD hS => ?_)
    subst hpost
    have hP : va_P D cls [cM h b ((pm : Nat) : Int) ((n : Nat) : Int) ((k : Nat) : Int) ((d : Nat) : Int) ((rr : Nat) : Int) ((hd : Nat) : Int) ((sm : Nat) : Int) kr kq ku s0 s1 s2 s3 s4 s5 hs, cR cI (b 1) 6 g0, cR cI (b 2) 6 g1, cR cI (b 3) 12 g3, cR cI (b 7) 12 q7] H := hP
    have hD : va_D (va_A [cM h b ((pm : Nat) : Int) ((n : Nat) : Int) ((k : Nat) : Int) ((d : Nat) : Int) ((rr : Nat) : Int) ((hd : Nat) : Int) ((sm : Nat) : Int) kr kq ku s0 s1 s2 s3 s4 s5 hs, cR cI (b 1) 6 g0, cR cI (b 2) 6 g1, cR cI (b 3) 12 g3, cR cI (b 7) 12 q7] sz) [cM h b ((pm : Nat) : Int) ((n : Nat) : Int) ((k : Nat) : Int) ((d : Nat) : Int) ((rr : Nat) : Int) ((hd : Nat) : Int) ((sm : Nat) : Int) kr kq ku s0 s1 s2 s3 s4 s5 hs, cR cI (b 1) 6 g0, cR cI (b 2) 6 g1, cR cI (b 3) 12 g3, cR cI (b 7) 12 q7] := hD
    refine W.eq (g2 := F0 m 13 ls [.int (zI (b01 (0 ≤ y2 ∧ y2 < n)))]) rfl ?_
    refine z_if_ne (tgt := 19) hx hb (by have := b01_r (0 ≤ y2 ∧ y2 < n); omega) dX4_bring_13 (by decide) (fun c_13 => ?_) (fun c_13 => ?_)
    · have b_13 := b01_ne c_13
      obtain ⟨q2, rfl⟩ : ∃ q : Nat, y2 = (q : Int) := ⟨y2.toNat, by omega⟩
      refine lv_iload_n hx hb dX4_bring_19 rfl (lv_at hl 3 rfl) ?_
      refine z_i2l hx hb (by omega) dX4_bring_20 ?_
      refine lv_lconst (v := zL 0) hx hb dX4_bring_21 (by decide) ?_
      refine lv_lconst (v := zL 1) hx hb dX4_bring_22 (by decide) ?_
      refine zcall_i (wc := []) (wr := [cM h b ((pm : Nat) : Int) ((n : Nat) : Int) ((k : Nat) : Int) ((d : Nat) : Int) ((rr : Nat) : Int) ((hd : Nat) : Int) ((sm : Nat) : Int) kr kq ku s0 s1 s2 s3 s4 s5 hs, cR cI (b 1) 6 g0, cR cI (b 2) 6 g1, cR cI (b 3) 12 g3, cR cI (b 7) 12 q7]) (rest := []) hE hP hD hS hA [] [0, 1, 2, 3, 4] [0, 1, 2, 3, 4] rfl rfl (by decide) (by decide) (by decide) (fun (u : Unit) => [cM h b ((pm : Nat) : Int) ((n : Nat) : Int) ((k : Nat) : Int) ((d : Nat) : Int) ((rr : Nat) : Int) ((hd : Nat) : Int) ((sm : Nat) : Int) kr kq ku s0 s1 s2 s3 s4 s5 hs, cR cI (b 1) 6 g0, cR cI (b 2) 6 g1, cR cI (b 3) 12 g3, cR cI (b 7) 12 q7]) (fun u => rfl) (fun hPc hDc => zrunS (As := [.long (zL y3), .long (zL 0), .long (zL 1)]) (rest := []) K k_X4_in qm_X4_61 ⟨⟨rfl, rfl⟩, ⟨Nat.le_of_ble_eq_true rfl, Nat.le_of_ble_eq_true rfl⟩⟩ hPc hDc (c_X4_in l D cI y3 0 1 (by first | assumption | omega) (by first | assumption | omega) (by first | assumption | omega) _) rfl hl.1 rfl (Nat.le_of_ble_eq_true rfl) dX4_bring_23 ⟨Nat.zero_le _, Nat.zero_le _⟩) (by decide) (fun z u H locs hpost hP hD hS => ?_)
      subst hpost
      have hP : va_P D cls [cM h b ((pm : Nat) : Int) ((n : Nat) : Int) ((k : Nat) : Int) ((d : Nat) : Int) ((rr : Nat) : Int) ((hd : Nat) : Int) ((sm : Nat) : Int) kr kq ku s0 s1 s2 s3 s4 s5 hs, cR cI (b 1) 6 g0, cR cI (b 2) 6 g1, cR cI (b 3) 12 g3, cR cI (b 7) 12 q7] H := hP
      have hD : va_D (va_A [cM h b ((pm : Nat) : Int) ((n : Nat) : Int) ((k : Nat) : Int) ((d : Nat) : Int) ((rr : Nat) : Int) ((hd : Nat) : Int) ((sm : Nat) : Int) kr kq ku s0 s1 s2 s3 s4 s5 hs, cR cI (b 1) 6 g0, cR cI (b 2) 6 g1, cR cI (b 3) 12 g3, cR cI (b 7) 12 q7] sz) [cM h b ((pm : Nat) : Int) ((n : Nat) : Int) ((k : Nat) : Int) ((d : Nat) : Int) ((rr : Nat) : Int) ((hd : Nat) : Int) ((sm : Nat) : Int) kr kq ku s0 s1 s2 s3 s4 s5 hs, cR cI (b 1) 6 g0, cR cI (b 2) 6 g1, cR cI (b 3) 12 g3, cR cI (b 7) 12 q7] := hD
      refine W.eq (g2 := F0 m 26 ls [.int (zI (b01 (0 ≤ y3 ∧ y3 ≤ 1)))]) rfl ?_
      refine z_if_eq (tgt := 39) hx hb (by have := b01_r (0 ≤ y3 ∧ y3 ≤ 1); omega) dX4_bring_26 (by decide) (fun c_26 => ?_) (fun c_26 => ?_)
      · have b_26 := b01_eq c_26
        refine lv_bipush (v := zI (-102)) hx hb dX4_bring_39 (by decide) ?_
        rw [← hQf]
        exact z_iret K hS (q7) (by first | (simp only [fBring, chk_t (show q1 < n by omega), chk_t (show q2 < n by omega)]; rw [chk_f (by omega)]; done) | simp only [fBring, chk_t (show q1 < n by omega), chk_t (show q2 < n by omega), chk_t (show q3 < 2 by omega)]) hP hD dX4_bring_41
      · have b_26 := b01_ne c_26
        obtain ⟨q3, rfl⟩ : ∃ q : Nat, y3 = (q : Int) := ⟨y3.toNat, by omega⟩
        refine lv_aload_n hx hb dX4_bring_29 rfl (lv_at hl 0 rfl) ?_
        refine lv_iload_n hx hb dX4_bring_30 rfl (lv_at hl 1 rfl) ?_
        refine lv_iload_n hx hb dX4_bring_31 rfl (lv_at hl 2 rfl) ?_
        refine lv_iload_n hx hb dX4_bring_32 rfl (lv_at hl 3 rfl) ?_
        refine zcall_i (wc := [cM h b ((pm : Nat) : Int) ((n : Nat) : Int) ((k : Nat) : Int) ((d : Nat) : Int) ((rr : Nat) : Int) ((hd : Nat) : Int) ((sm : Nat) : Int) kr kq ku s0 s1 s2 s3 s4 s5 hs, cR cI (b 1) 6 g0, cR cI (b 2) 6 g1, cR cI (b 3) 12 g3, cR cI (b 7) 12 q7]) (wr := []) (rest := []) hE hP hD hS hA [0, 1, 2, 3, 4] [] [0, 1, 2, 3, 4] rfl rfl (by decide) (by decide) (by decide) (fun (u : (Nat → Int)) => [cM h b ((pm : Nat) : Int) ((n : Nat) : Int) ((k : Nat) : Int) ((d : Nat) : Int) ((rr : Nat) : Int) ((hd : Nat) : Int) ((sm : Nat) : Int) kr kq ku s0 s1 s2 s3 s4 s5 hs, cR cI (b 1) 6 g0, cR cI (b 2) 6 g1, cR cI (b 3) 12 g3, cR cI (b 7) 12 u]) (fun u => rfl) (fun hPc hDc => zrunV (As := [.int (zI ((q1 : Nat) : Int)), .int (zI ((q2 : Nat) : Int)), .int (zI ((q3 : Nat) : Int))]) (rest := []) (q0 := 0) (ci := 4) K k_X4_bringOf qm_X4_206 ⟨⟨rfl, rfl⟩, ⟨Nat.le_of_ble_eq_true rfl, Nat.le_of_ble_eq_true rfl⟩⟩ rfl rfl hPc hDc (c_X4_bringOf l D cI h b pm n k d rr hd sm kr kq ku s0 s1 s2 s3 s4 s5 hs g0 g1 κ ν g3 q7 π q1 q2 q3 (by first | assumption | omega) (by first | assumption | omega) (by first | assumption | omega) (by first | assumption | omega) (by first | assumption | omega) (by first | assumption | omega) (by first | assumption | omega) (by first | assumption | omega) (by first | assumption | omega) (by first | assumption | omega) (by first | assumption | omega) (by first | assumption | omega) (by first | assumption | omega) _) rfl hl.1 rfl (Nat.le_of_ble_eq_true rfl) dX4_bring_33 ⟨Nat.zero_le _, Nat.zero_le _⟩) (by decide) (fun z u H locs hpost hP hD hS => ?_)
        obtain ⟨o_1, hu⟩ : ∃ z, z = u := ⟨_, rfl⟩
        subst hu
        obtain ⟨rfl, hzr_33⟩ := hpost
        have hzr_33 : -2147483648 ≤ (fBri (mus n κ ν) n k π q1 q2 q3) ∧ (fBri (mus n κ ν) n k π q1 q2 q3) < 2147483648 := hzr_33
        have hP : va_P D cls [cM h b ((pm : Nat) : Int) ((n : Nat) : Int) ((k : Nat) : Int) ((d : Nat) : Int) ((rr : Nat) : Int) ((hd : Nat) : Int) ((sm : Nat) : Int) kr kq ku s0 s1 s2 s3 s4 s5 hs, cR cI (b 1) 6 g0, cR cI (b 2) 6 g1, cR cI (b 3) 12 g3, cR cI (b 7) 12 o_1] H := hP
        have hD : va_D (va_A [cM h b ((pm : Nat) : Int) ((n : Nat) : Int) ((k : Nat) : Int) ((d : Nat) : Int) ((rr : Nat) : Int) ((hd : Nat) : Int) ((sm : Nat) : Int) kr kq ku s0 s1 s2 s3 s4 s5 hs, cR cI (b 1) 6 g0, cR cI (b 2) 6 g1, cR cI (b 3) 12 g3, cR cI (b 7) 12 q7] sz) [cM h b ((pm : Nat) : Int) ((n : Nat) : Int) ((k : Nat) : Int) ((d : Nat) : Int) ((rr : Nat) : Int) ((hd : Nat) : Int) ((sm : Nat) : Int) kr kq ku s0 s1 s2 s3 s4 s5 hs, cR cI (b 1) 6 g0, cR cI (b 2) 6 g1, cR cI (b 3) 12 g3, cR cI (b 7) 12 o_1] := hD
        refine W.eq (g2 := F0 m 36 ls [.int (zI (fBri (mus n κ ν) n k π q1 q2 q3))]) rfl ?_
        refine lv_goto (tgt := 41) hx hb dX4_bring_36 (by decide) ?_
        rw [← hQf]
        exact z_iret K hS (o_1) (by first | (simp only [fBring, chk_t (show q1 < n by omega), chk_t (show q2 < n by omega)]; rw [chk_f (by omega)]; done) | simp only [fBring, chk_t (show q1 < n by omega), chk_t (show q2 < n by omega), chk_t (show q3 < 2 by omega)]) hP hD dX4_bring_41
    · have b_13 := b01_eq c_13
      refine lv_bipush (v := zI (-101)) hx hb dX4_bring_16 (by decide) ?_
      rw [← hQf]
      exact z_iret K hS (q7) (by first | (simp only [fBring, chk_f b_5]; done) | simp only [fBring, chk_t (show q1 < n by omega), chk_f b_13]) hP hD dX4_bring_18
set_option maxHeartbeats 4000000 in
set_option maxRecDepth 100000 in
theorem c_X4_home (l : Launch) (D : va_G) (cI : ClassId) (h : Nat) (b : Nat → Nat) (pm n k d rr hd sm : Nat) (kr kq ku s0 s1 s2 s3 s4 s5 hs : Int) (g0 g1 g3 gq : Nat → Int) (κ ν π ss sf st : Nat → Nat) (q5 q6 : Nat → Int) (y1 : Int) (hT : MI n k d sm g0 g1 g3 gq κ ν π ss sf st) (hy1 : -2147483648 ≤ y1 ∧ y1 < 2147483648) (hhd : hd ≤ 30) : zMi l yX4_home cX4_home 2 (some .int) ({ frames := 7, cells := 0, slots := 0, locals := 164 }) D cI [.ref h, .int (zI y1)] [cM h b ((pm : Nat) : Int) ((n : Nat) : Int) ((k : Nat) : Int) ((d : Nat) : Int) ((rr : Nat) : Int) ((hd : Nat) : Int) ((sm : Nat) : Int) kr kq ku s0 s1 s2 s3 s4 s5 hs, cR cI (b 1) 6 g0, cR cI (b 2) 6 g1, cR cI (b 3) 12 g3, cR cI (b 5) 12 q5, cR cI (b 6) 12 q6] (fun (z : Int) (u : (Nat) × (Int) × (Nat → Int) × (Nat → Int)) => (z = (fHome n k κ ν π hd y1)) ∧ (u.1 = chk y1 2 (fun _ => if k = 0 ∨ 30 ≤ hd then hd else hd + 1) hd)) (fun (u : (Nat) × (Int) × (Nat → Int) × (Nat → Int)) => [cM h b ((pm : Nat) : Int) ((n : Nat) : Int) ((k : Nat) : Int) ((d : Nat) : Int) ((rr : Nat) : Int) ((u.1 : Nat) : Int) ((sm : Nat) : Int) kr kq ku s0 s1 s2 s3 u.2.1 s5 hs, cR cI (b 1) 6 g0, cR cI (b 2) 6 g1, cR cI (b 3) 12 g3, cR cI (b 5) 12 u.2.2.1, cR cI (b 6) 12 u.2.2.2]) := by
  intro sz
  refine zstart rfl (by decide) (Nat.le_of_ble_eq_true rfl) ?_
  intro p e s m below meth c ls K hnm hsz hP hD hS hl
  generalize hargs : ([.ref h, .int (zI y1)] : List Value).toArray = args at K ⊢
  generalize hQf : MQ below _ args s _ _ _ = Qf
  have K : zK p s m args meth c cX4_home 2 RX4 (some .int) D cI := K
  obtain ⟨hx, hb, hml, hown, hts, hE, -, -⟩ := id K
  have hA := zhA (ws0 := [cM h b ((pm : Nat) : Int) ((n : Nat) : Int) ((k : Nat) : Int) ((d : Nat) : Int) ((rr : Nat) : Int) ((hd : Nat) : Int) ((sm : Nat) : Int) kr kq ku s0 s1 s2 s3 s4 s5 hs, cR cI (b 1) 6 g0, cR cI (b 2) 6 g1, cR cI (b 3) 12 g3, cR cI (b 5) 12 q5, cR cI (b 6) 12 q6]) hsz
  have hl : lv_has ls 2 [(0, .ref h), (1, .int (zI y1))] := hl
  obtain ⟨hnk0, hd0, hv, hg0, hκ, hg1, hν, hg3, hπ, hπi, hq0, hss, hq1, hsf, hq2, hst⟩ := id hT
  have hn12 : n ≤ 12 := by omega
  have hk : k ≤ 6 := by omega
  refine lv_iload_n hx hb dX4_home_0 rfl (lv_at hl 1 rfl) ?_
  refine z_i2l hx hb (by omega) dX4_home_1 ?_
  refine lv_lconst (v := zL 0) hx hb dX4_home_2 (by decide) ?_
  refine lv_lconst (v := zL 1) hx hb dX4_home_3 (by decide) ?_
  refine zcall_i (wc := []) (wr := [cM h b ((pm : Nat) : Int) ((n : Nat) : Int) ((k : Nat) : Int) ((d : Nat) : Int) ((rr : Nat) : Int) ((hd : Nat) : Int) ((sm : Nat) : Int) kr kq ku s0 s1 s2 s3 s4 s5 hs, cR cI (b 1) 6 g0, cR cI (b 2) 6 g1, cR cI (b 3) 12 g3, cR cI (b 5) 12 q5, cR cI (b 6) 12 q6]) (rest := []) hE hP hD hS hA [] [0, 1, 2, 3, 4, 5] [0, 1, 2, 3, 4, 5] rfl rfl (by decide) (by decide) (by decide) (fun (u : Unit) => [cM h b ((pm : Nat) : Int) ((n : Nat) : Int) ((k : Nat) : Int) ((d : Nat) : Int) ((rr : Nat) : Int) ((hd : Nat) : Int) ((sm : Nat) : Int) kr kq ku s0 s1 s2 s3 s4 s5 hs, cR cI (b 1) 6 g0, cR cI (b 2) 6 g1, cR cI (b 3) 12 g3, cR cI (b 5) 12 q5, cR cI (b 6) 12 q6]) (fun u => rfl) (fun hPc hDc => zrunS (As := [.long (zL y1), .long (zL 0), .long (zL 1)]) (rest := []) K k_X4_in qm_X4_61 ⟨⟨rfl, rfl⟩, ⟨Nat.le_of_ble_eq_true rfl, Nat.le_of_ble_eq_true rfl⟩⟩ hPc hDc (c_X4_in l D cI y1 0 1 (by first | assumption | omega) (by first | assumption | omega) (by first | assumption | omega) _) rfl hl.1 rfl (Nat.le_of_ble_eq_true rfl) dX4_home_4 ⟨Nat.zero_le _, Nat.zero_le _⟩) (by decide) (fun z u H locs hpost hP hD hS => ?_)
  subst hpost
  have hP : va_P D cls [cM h b ((pm : Nat) : Int) ((n : Nat) : Int) ((k : Nat) : Int) ((d : Nat) : Int) ((rr : Nat) : Int) ((hd : Nat) : Int) ((sm : Nat) : Int) kr kq ku s0 s1 s2 s3 s4 s5 hs, cR cI (b 1) 6 g0, cR cI (b 2) 6 g1, cR cI (b 3) 12 g3, cR cI (b 5) 12 q5, cR cI (b 6) 12 q6] H := hP
  have hD : va_D (va_A [cM h b ((pm : Nat) : Int) ((n : Nat) : Int) ((k : Nat) : Int) ((d : Nat) : Int) ((rr : Nat) : Int) ((hd : Nat) : Int) ((sm : Nat) : Int) kr kq ku s0 s1 s2 s3 s4 s5 hs, cR cI (b 1) 6 g0, cR cI (b 2) 6 g1, cR cI (b 3) 12 g3, cR cI (b 5) 12 q5, cR cI (b 6) 12 q6] sz) [cM h b ((pm : Nat) : Int) ((n : Nat) : Int) ((k : Nat) : Int) ((d : Nat) : Int) ((rr : Nat) : Int) ((hd : Nat) : Int) ((sm : Nat) : Int) kr kq ku s0 s1 s2 s3 s4 s5 hs, cR cI (b 1) 6 g0, cR cI (b 2) 6 g1, cR cI (b 3) 12 g3, cR cI (b 5) 12 q5, cR cI (b 6) 12 q6] := hD
  refine W.eq (g2 := F0 m 7 ls [.int (zI (b01 (0 ≤ y1 ∧ y1 ≤ 1)))]) rfl ?_
  refine z_if_ne (tgt := 13) hx hb (by have := b01_r (0 ≤ y1 ∧ y1 ≤ 1); omega) dX4_home_7 (by decide) (fun c_7 => ?_) (fun c_7 => ?_)
  · have b_7 := b01_ne c_7
    obtain ⟨q1, rfl⟩ : ∃ q : Nat, y1 = (q : Int) := ⟨y1.toNat, by omega⟩
    have hck : ∀ (α : Type) (f : Nat → α) (e9 : α), chk ((q1 : Nat) : Int) 2 f e9 = f q1 := fun α f e9 => chk_t (by omega)
    refine lv_aload_n hx hb dX4_home_13 rfl (lv_at hl 0 rfl) ?_
    refine zcall_i (wc := [cM h b ((pm : Nat) : Int) ((n : Nat) : Int) ((k : Nat) : Int) ((d : Nat) : Int) ((rr : Nat) : Int) ((hd : Nat) : Int) ((sm : Nat) : Int) kr kq ku s0 s1 s2 s3 s4 s5 hs]) (wr := [cR cI (b 1) 6 g0, cR cI (b 2) 6 g1, cR cI (b 3) 12 g3, cR cI (b 5) 12 q5, cR cI (b 6) 12 q6]) (rest := []) hE hP hD hS hA [0] [1, 2, 3, 4, 5] [5, 0, 1, 2, 3, 4] rfl rfl (by decide) (by decide) (by decide) (fun (u : Unit) => [cM h b ((pm : Nat) : Int) ((n : Nat) : Int) ((k : Nat) : Int) ((d : Nat) : Int) ((rr : Nat) : Int) ((hd : Nat) : Int) ((sm : Nat) : Int) kr kq ku s0 s1 s2 s3 s4 s5 hs, cR cI (b 1) 6 g0, cR cI (b 2) 6 g1, cR cI (b 3) 12 g3, cR cI (b 5) 12 q5, cR cI (b 6) 12 q6]) (fun u => rfl) (fun hPc hDc => zrunV (As := []) (rest := []) (q0 := 0) (ci := 4) K k_X4_lacks qm_X4_160 ⟨⟨rfl, rfl⟩, ⟨Nat.le_of_ble_eq_true rfl, Nat.le_of_ble_eq_true rfl⟩⟩ rfl rfl hPc hDc (c_X4_lacks l D cI h b pm n k d rr hd sm kr kq ku s0 s1 s2 s3 s4 s5 hs (by first | assumption | omega) _) rfl hl.1 rfl (Nat.le_of_ble_eq_true rfl) dX4_home_14 ⟨Nat.zero_le _, Nat.zero_le _⟩) (by decide) (fun z u H locs hpost hP hD hS => ?_)
    subst hpost
    have hP : va_P D cls [cM h b ((pm : Nat) : Int) ((n : Nat) : Int) ((k : Nat) : Int) ((d : Nat) : Int) ((rr : Nat) : Int) ((hd : Nat) : Int) ((sm : Nat) : Int) kr kq ku s0 s1 s2 s3 s4 s5 hs, cR cI (b 1) 6 g0, cR cI (b 2) 6 g1, cR cI (b 3) 12 g3, cR cI (b 5) 12 q5, cR cI (b 6) 12 q6] H := hP
    have hD : va_D (va_A [cM h b ((pm : Nat) : Int) ((n : Nat) : Int) ((k : Nat) : Int) ((d : Nat) : Int) ((rr : Nat) : Int) ((hd : Nat) : Int) ((sm : Nat) : Int) kr kq ku s0 s1 s2 s3 s4 s5 hs, cR cI (b 1) 6 g0, cR cI (b 2) 6 g1, cR cI (b 3) 12 g3, cR cI (b 5) 12 q5, cR cI (b 6) 12 q6] sz) [cM h b ((pm : Nat) : Int) ((n : Nat) : Int) ((k : Nat) : Int) ((d : Nat) : Int) ((rr : Nat) : Int) ((hd : Nat) : Int) ((sm : Nat) : Int) kr kq ku s0 s1 s2 s3 s4 s5 hs, cR cI (b 1) 6 g0, cR cI (b 2) 6 g1, cR cI (b 3) 12 g3, cR cI (b 5) 12 q5, cR cI (b 6) 12 q6] := hD
    refine W.eq (g2 := F0 m 17 ls [.int (zI (b01 (k = 0)))]) rfl ?_
    refine z_if_ne (tgt := 29) hx hb (by have := b01_r (k = 0); omega) dX4_home_17 (by decide) (fun c_17 => ?_) (fun c_17 => ?_)
    · have b_17 := b01_ne c_17
      refine lv_bipush (v := zI (-103)) hx hb dX4_home_29 (by decide) ?_
      rw [← hQf]
      exact z_iret K hS (hd, s4, q5, q6) ⟨(by rw [fHome, hck, if_pos (by omega)]), (by (try dsimp only); rw [hck, if_pos (by omega)])⟩ hP hD dX4_home_31
    · have b_17 := b01_eq c_17
      refine lv_aload_n hx hb dX4_home_20 rfl (lv_at hl 0 rfl) ?_
      refine va_get (D := D) (ci := 4) (v := .int (zI ((hd : Nat) : Int))) (C := RX4) (T := TX4) (N := 32) hx hb hts inT_X4 hown hE.1 hP 0 rfl rfl 17 (by decide) (hts _ qf_X4_219) (fun _ h9 => h9) rfl dX4_home_21 ?_
      refine lv_bipush (v := zI 30) hx hb dX4_home_24 (by decide) ?_
      refine z_icmp_ne (tgt := 32) hx hb (by omega) dX4_home_26 (by decide) (fun c_26 => ?_) (fun c_26 => ?_)
      · refine lv_aload_n hx hb dX4_home_32 rfl (lv_at hl 0 rfl) ?_
        refine lv_dup hx hb dX4_home_33 rfl ?_
        refine va_get (D := D) (ci := 4) (v := .int (zI ((hd : Nat) : Int))) (C := RX4) (T := TX4) (N := 32) hx hb hts inT_X4 hown hE.1 hP 0 rfl rfl 17 (by decide) (hts _ qf_X4_219) (fun _ h9 => h9) rfl dX4_home_34 ?_
        refine lv_iconst (v := zI 1) hx hb dX4_home_37 rfl ?_
        refine z_iadd hx hb (((hd + 1) : Nat) : Int) (by omega) dX4_home_38 ?_
        refine va_put (D := D) (ci := 4) (v := .int (zI (((hd + 1) : Nat) : Int))) (ty := .int) (C := RX4) (T := TX4) (N := 32) hx hb hts inT_X4 tyX4 tyX4_ok nmX4 hown hE.1 hP hD hS 0 rfl rfl 17 (by decide) (hts _ qf_X4_219) (fun _ h9 => h9) rfl (by decide +kernel) rfl rfl (Nat.le_of_ble_eq_true rfl) dX4_home_39 (fun H locs hP hD hS => ?_)
        have hP : va_P D cls [cM h b ((pm : Nat) : Int) ((n : Nat) : Int) ((k : Nat) : Int) ((d : Nat) : Int) ((rr : Nat) : Int) (((hd + 1) : Nat) : Int) ((sm : Nat) : Int) kr kq ku s0 s1 s2 s3 s4 s5 hs, cR cI (b 1) 6 g0, cR cI (b 2) 6 g1, cR cI (b 3) 12 g3, cR cI (b 5) 12 q5, cR cI (b 6) 12 q6] H := hP
        have hD : va_D (va_A [cM h b ((pm : Nat) : Int) ((n : Nat) : Int) ((k : Nat) : Int) ((d : Nat) : Int) ((rr : Nat) : Int) ((hd : Nat) : Int) ((sm : Nat) : Int) kr kq ku s0 s1 s2 s3 s4 s5 hs, cR cI (b 1) 6 g0, cR cI (b 2) 6 g1, cR cI (b 3) 12 g3, cR cI (b 5) 12 q5, cR cI (b 6) 12 q6] sz) [cM h b ((pm : Nat) : Int) ((n : Nat) : Int) ((k : Nat) : Int) ((d : Nat) : Int) ((rr : Nat) : Int) (((hd + 1) : Nat) : Int) ((sm : Nat) : Int) kr kq ku s0 s1 s2 s3 s4 s5 hs, cR cI (b 1) 6 g0, cR cI (b 2) 6 g1, cR cI (b 3) 12 g3, cR cI (b 5) 12 q5, cR cI (b 6) 12 q6] := hD
        refine lv_aload_n hx hb dX4_home_42 rfl (lv_at hl 0 rfl) ?_
        refine lv_iload_n hx hb dX4_home_43 rfl (lv_at hl 1 rfl) ?_
        have hn : 2 ≤ n ∧ n ≤ 12 := by omega
        refine zcall_i (wc := [cM h b ((pm : Nat) : Int) ((n : Nat) : Int) ((k : Nat) : Int) ((d : Nat) : Int) ((rr : Nat) : Int) (((hd + 1) : Nat) : Int) ((sm : Nat) : Int) kr kq ku s0 s1 s2 s3 s4 s5 hs, cR cI (b 1) 6 g0, cR cI (b 2) 6 g1, cR cI (b 3) 12 g3, cR cI (b 5) 12 q5, cR cI (b 6) 12 q6]) (wr := []) (rest := []) hE hP hD hS hA [0, 1, 2, 3, 4, 5] [] [0, 1, 2, 3, 4, 5] rfl rfl (by decide) (by decide) (by decide) (fun (u : (Int) × (Nat → Int) × (Nat → Int)) => [cM h b ((pm : Nat) : Int) ((n : Nat) : Int) ((k : Nat) : Int) ((d : Nat) : Int) ((rr : Nat) : Int) (((hd + 1) : Nat) : Int) ((sm : Nat) : Int) kr kq ku s0 s1 s2 s3 u.1 s5 hs, cR cI (b 1) 6 g0, cR cI (b 2) 6 g1, cR cI (b 3) 12 g3, cR cI (b 5) 12 u.2.1, cR cI (b 6) 12 u.2.2]) (fun u => rfl) (fun hPc hDc => zrunV (As := [.int (zI ((q1 : Nat) : Int))]) (rest := []) (q0 := 0) (ci := 4) K k_X4_homeOf qm_X4_222 ⟨⟨rfl, rfl⟩, ⟨Nat.le_of_ble_eq_true rfl, Nat.le_of_ble_eq_true rfl⟩⟩ rfl rfl hPc hDc (c_X4_homeOf l D cI h b pm n k d rr (hd + 1) sm kr kq ku s0 s1 s2 s3 s4 s5 hs g0 g1 κ ν g3 q5 q6 π q1 (by first | assumption | omega) (by first | assumption | omega) (by first | assumption | omega) (by first | assumption | omega) (by first | assumption | omega) (by first | assumption | omega) (by first | assumption | omega) (by first | assumption | omega) (by first | assumption | omega) (by first | assumption | omega) (by first | assumption | omega) _) rfl hl.1 rfl (Nat.le_of_ble_eq_true rfl) dX4_home_44 ⟨Nat.zero_le _, Nat.zero_le _⟩) (by decide) (fun z u H locs hpost hP hD hS => ?_)
        obtain ⟨t_1, o_2, o_3⟩ := u
        subst hpost
        have hP : va_P D cls [cM h b ((pm : Nat) : Int) ((n : Nat) : Int) ((k : Nat) : Int) ((d : Nat) : Int) ((rr : Nat) : Int) (((hd + 1) : Nat) : Int) ((sm : Nat) : Int) kr kq ku s0 s1 s2 s3 t_1 s5 hs, cR cI (b 1) 6 g0, cR cI (b 2) 6 g1, cR cI (b 3) 12 g3, cR cI (b 5) 12 o_2, cR cI (b 6) 12 o_3] H := hP
        have hD : va_D (va_A [cM h b ((pm : Nat) : Int) ((n : Nat) : Int) ((k : Nat) : Int) ((d : Nat) : Int) ((rr : Nat) : Int) ((hd : Nat) : Int) ((sm : Nat) : Int) kr kq ku s0 s1 s2 s3 s4 s5 hs, cR cI (b 1) 6 g0, cR cI (b 2) 6 g1, cR cI (b 3) 12 g3, cR cI (b 5) 12 q5, cR cI (b 6) 12 q6] sz) [cM h b ((pm : Nat) : Int) ((n : Nat) : Int) ((k : Nat) : Int) ((d : Nat) : Int) ((rr : Nat) : Int) (((hd + 1) : Nat) : Int) ((sm : Nat) : Int) kr kq ku s0 s1 s2 s3 t_1 s5 hs, cR cI (b 1) 6 g0, cR cI (b 2) 6 g1, cR cI (b 3) 12 g3, cR cI (b 5) 12 o_2, cR cI (b 6) 12 o_3] := hD
        refine W.eq (g2 := F0 m 47 ls [.int (zI (fHm (mus n κ ν) n k π q1 5 0))]) rfl ?_
        rw [← hQf]
        exact z_iret K hS ((hd + 1), t_1, o_2, o_3) ⟨(by rw [fHome, hck, if_neg (by omega)]), (by (try dsimp only); rw [hck, if_neg (by omega)])⟩ hP hD dX4_home_47
      · refine lv_bipush (v := zI (-103)) hx hb dX4_home_29 (by decide) ?_
        rw [← hQf]
        exact z_iret K hS (hd, s4, q5, q6) ⟨(by rw [fHome, hck, if_pos (by omega)]), (by (try dsimp only); rw [hck, if_pos (by omega)])⟩ hP hD dX4_home_31
  · have b_7 := b01_eq c_7
    refine lv_bipush (v := zI (-102)) hx hb dX4_home_10 (by decide) ?_
    rw [← hQf]
    exact z_iret K hS (hd, s4, q5, q6) ⟨(by rw [fHome, chk_f (by omega)]), (by (try dsimp only); rw [chk_f (by omega)])⟩ hP hD dX4_home_12
set_option maxHeartbeats 4000000 in
set_option maxRecDepth 100000 in
theorem c_X4_odds (l : Launch) (D : va_G) (cI : ClassId) (h : Nat) (b : Nat → Nat) (pm n k d rr hd sm : Nat) (kr kq ku s0 s1 s2 s3 s4 s5 hs : Int) (g0 g1 g3 gq : Nat → Int) (κ ν π ss sf st : Nat → Nat) (q8 q9 : Nat → Int) (y1 y2 y3 y4 : Int) (hT : MI n k d sm g0 g1 g3 gq κ ν π ss sf st) (hy1 : -2147483648 ≤ y1 ∧ y1 < 2147483648) (hy2 : -2147483648 ≤ y2 ∧ y2 < 2147483648) (hy3 : -2147483648 ≤ y3 ∧ y3 < 2147483648) (hy4 : -2147483648 ≤ y4 ∧ y4 < 2147483648) : zMi l yX4_odds cX4_odds 5 (some .int) ({ frames := 5, cells := 0, slots := 0, locals := 121 }) D cI [.ref h, .int (zI y1), .int (zI y2), .int (zI y3), .int (zI y4)] [cM h b ((pm : Nat) : Int) ((n : Nat) : Int) ((k : Nat) : Int) ((d : Nat) : Int) ((rr : Nat) : Int) ((hd : Nat) : Int) ((sm : Nat) : Int) kr kq ku s0 s1 s2 s3 s4 s5 hs, cR cI (b 1) 6 g0, cR cI (b 2) 6 g1, cR cI (b 3) 12 g3, cR cI (b 8) 12 q8, cR cI (b 9) 12 q9] (fun (z : Int) (u : (Nat → Int) × (Nat → Int)) => z = (fOdds n k κ ν π y1 y2 y3 y4)) (fun (u : (Nat → Int) × (Nat → Int)) => [cM h b ((pm : Nat) : Int) ((n : Nat) : Int) ((k : Nat) : Int) ((d : Nat) : Int) ((rr : Nat) : Int) ((hd : Nat) : Int) ((sm : Nat) : Int) kr kq ku s0 s1 s2 s3 s4 s5 hs, cR cI (b 1) 6 g0, cR cI (b 2) 6 g1, cR cI (b 3) 12 g3, cR cI (b 8) 12 u.1, cR cI (b 9) 12 u.2]) := by
  intro sz
  refine zstart rfl (by decide) (Nat.le_of_ble_eq_true rfl) ?_
  intro p e s m below meth c ls K hnm hsz hP hD hS hl
  generalize hargs : ([.ref h, .int (zI y1), .int (zI y2), .int (zI y3), .int (zI y4)] : List Value).toArray = args at K ⊢
  generalize hQf : MQ below _ args s _ _ _ = Qf
  have K : zK p s m args meth c cX4_odds 5 RX4 (some .int) D cI := K
  obtain ⟨hx, hb, hml, hown, hts, hE, -, -⟩ := id K
  have hA := zhA (ws0 := [cM h b ((pm : Nat) : Int) ((n : Nat) : Int) ((k : Nat) : Int) ((d : Nat) : Int) ((rr : Nat) : Int) ((hd : Nat) : Int) ((sm : Nat) : Int) kr kq ku s0 s1 s2 s3 s4 s5 hs, cR cI (b 1) 6 g0, cR cI (b 2) 6 g1, cR cI (b 3) 12 g3, cR cI (b 8) 12 q8, cR cI (b 9) 12 q9]) hsz
  have hl : lv_has ls 5 [(0, .ref h), (1, .int (zI y1)), (2, .int (zI y2)), (3, .int (zI y3)), (4, .int (zI y4))] := hl
  obtain ⟨hnk0, hd0, hv, hg0, hκ, hg1, hν, hg3, hπ, hπi, hq0, hss, hq1, hsf, hq2, hst⟩ := id hT
  have hn12 : n ≤ 12 := by omega
  have hk : k ≤ 6 := by omega
  refine lv_aload_n hx hb dX4_odds_0 rfl (lv_at hl 0 rfl) ?_
  refine lv_iload_n hx hb dX4_odds_1 rfl (lv_at hl 1 rfl) ?_
  refine zcall_i (wc := [cM h b ((pm : Nat) : Int) ((n : Nat) : Int) ((k : Nat) : Int) ((d : Nat) : Int) ((rr : Nat) : Int) ((hd : Nat) : Int) ((sm : Nat) : Int) kr kq ku s0 s1 s2 s3 s4 s5 hs]) (wr := [cR cI (b 1) 6 g0, cR cI (b 2) 6 g1, cR cI (b 3) 12 g3, cR cI (b 8) 12 q8, cR cI (b 9) 12 q9]) (rest := []) hE hP hD hS hA [0] [1, 2, 3, 4, 5] [5, 0, 1, 2, 3, 4] rfl rfl (by decide) (by decide) (by decide) (fun (u : Unit) => [cM h b ((pm : Nat) : Int) ((n : Nat) : Int) ((k : Nat) : Int) ((d : Nat) : Int) ((rr : Nat) : Int) ((hd : Nat) : Int) ((sm : Nat) : Int) kr kq ku s0 s1 s2 s3 s4 s5 hs, cR cI (b 1) 6 g0, cR cI (b 2) 6 g1, cR cI (b 3) 12 g3, cR cI (b 8) 12 q8, cR cI (b 9) 12 q9]) (fun u => rfl) (fun hPc hDc => zrunV (As := [.int (zI y1)]) (rest := []) (q0 := 0) (ci := 4) K k_X4_isPlace qm_X4_125 ⟨⟨rfl, rfl⟩, ⟨Nat.le_of_ble_eq_true rfl, Nat.le_of_ble_eq_true rfl⟩⟩ rfl rfl hPc hDc (c_X4_isPlace l D cI h b pm n k d rr hd sm kr kq ku s0 s1 s2 s3 s4 s5 hs y1 (by first | assumption | omega) (by first | assumption | omega) _) rfl hl.1 rfl (Nat.le_of_ble_eq_true rfl) dX4_odds_2 ⟨Nat.zero_le _, Nat.zero_le _⟩) (by decide) (fun z u H locs hpost hP hD hS => ?_)
  subst hpost
  have hP : va_P D cls [cM h b ((pm : Nat) : Int) ((n : Nat) : Int) ((k : Nat) : Int) ((d : Nat) : Int) ((rr : Nat) : Int) ((hd : Nat) : Int) ((sm : Nat) : Int) kr kq ku s0 s1 s2 s3 s4 s5 hs, cR cI (b 1) 6 g0, cR cI (b 2) 6 g1, cR cI (b 3) 12 g3, cR cI (b 8) 12 q8, cR cI (b 9) 12 q9] H := hP
  have hD : va_D (va_A [cM h b ((pm : Nat) : Int) ((n : Nat) : Int) ((k : Nat) : Int) ((d : Nat) : Int) ((rr : Nat) : Int) ((hd : Nat) : Int) ((sm : Nat) : Int) kr kq ku s0 s1 s2 s3 s4 s5 hs, cR cI (b 1) 6 g0, cR cI (b 2) 6 g1, cR cI (b 3) 12 g3, cR cI (b 8) 12 q8, cR cI (b 9) 12 q9] sz) [cM h b ((pm : Nat) : Int) ((n : Nat) : Int) ((k : Nat) : Int) ((d : Nat) : Int) ((rr : Nat) : Int) ((hd : Nat) : Int) ((sm : Nat) : Int) kr kq ku s0 s1 s2 s3 s4 s5 hs, cR cI (b 1) 6 g0, cR cI (b 2) 6 g1, cR cI (b 3) 12 g3, cR cI (b 8) 12 q8, cR cI (b 9) 12 q9] := hD
  refine W.eq (g2 := F0 m 5 ls [.int (zI (b01 (0 ≤ y1 ∧ y1 < n)))]) rfl ?_
  refine z_if_eq (tgt := 16) hx hb (by have := b01_r (0 ≤ y1 ∧ y1 < n); omega) dX4_odds_5 (by decide) (fun c_5 => ?_) (fun c_5 => ?_)
  · have b_5 := b01_eq c_5
    refine lv_bipush (v := zI (-101)) hx hb dX4_odds_16 (by decide) ?_
    rw [← hQf]
    exact z_iret K hS (q8, q9) (by first | (simp only [fOdds, chk_f b_5]; done) | simp only [fOdds, chk_t (show q1 < n by omega), chk_f b_13]) hP hD dX4_odds_18
  · have b_5 := b01_ne c_5
    obtain ⟨q1, rfl⟩ : ∃ q : Nat, y1 = (q : Int) := ⟨y1.toNat, by omega⟩
    have hn : 2 ≤ n ∧ n ≤ 12 := by omega
    refine lv_aload_n hx hb dX4_odds_8 rfl (lv_at hl 0 rfl) ?_
    refine lv_iload_n hx hb dX4_odds_9 rfl (lv_at hl 2 rfl) ?_
    refine zcall_i (wc := [cM h b ((pm : Nat) : Int) ((n : Nat) : Int) ((k : Nat) : Int) ((d : Nat) : Int) ((rr : Nat) : Int) ((hd : Nat) : Int) ((sm : Nat) : Int) kr kq ku s0 s1 s2 s3 s4 s5 hs]) (wr := [cR cI (b 1) 6 g0, cR cI (b 2) 6 g1, cR cI (b 3) 12 g3, cR cI (b 8) 12 q8, cR cI (b 9) 12 q9]) (rest := []) hE hP hD hS hA [0] [1, 2, 3, 4, 5] [5, 0, 1, 2, 3, 4] rfl rfl (by decide) (by decide) (by decide) (fun (u : Unit) => [cM h b ((pm : Nat) : Int) ((n : Nat) : Int) ((k : Nat) : Int) ((d : Nat) : Int) ((rr : Nat) : Int) ((hd : Nat) : Int) ((sm : Nat) : Int) kr kq ku s0 s1 s2 s3 s4 s5 hs, cR cI (b 1) 6 g0, cR cI (b 2) 6 g1, cR cI (b 3) 12 g3, cR cI (b 8) 12 q8, cR cI (b 9) 12 q9]) (fun u => rfl) (fun hPc hDc => zrunV (As := [.int (zI y2)]) (rest := []) (q0 := 0) (ci := 4) K k_X4_isPlace qm_X4_125 ⟨⟨rfl, rfl⟩, ⟨Nat.le_of_ble_eq_true rfl, Nat.le_of_ble_eq_true rfl⟩⟩ rfl rfl hPc hDc (c_X4_isPlace l D cI h b pm n k d rr hd sm kr kq ku s0 s1 s2 s3 s4 s5 hs y2 (by first | assumption | omega) (by first | assumption | omega) _) rfl hl.1 rfl (Nat.le_of_ble_eq_true rfl) dX4_odds_10 ⟨Nat.zero_le _, Nat.zero_le _⟩) (by decide) (fun z u H locs hpost hP hD hS => ?_)
    subst hpost
    have hP : va_P D cls [cM h b ((pm : Nat) : Int) ((n : Nat) : Int) ((k : Nat) : Int) ((d : Nat) : Int) ((rr : Nat) : Int) ((hd : Nat) : Int) ((sm : Nat) : Int) kr kq ku s0 s1 s2 s3 s4 s5 hs, cR cI (b 1) 6 g0, cR cI (b 2) 6 g1, cR cI (b 3) 12 g3, cR cI (b 8) 12 q8, cR cI (b 9) 12 q9] H := hP
    have hD : va_D (va_A [cM h b ((pm : Nat) : Int) ((n : Nat) : Int) ((k : Nat) : Int) ((d : Nat) : Int) ((rr : Nat) : Int) ((hd : Nat) : Int) ((sm : Nat) : Int) kr kq ku s0 s1 s2 s3 s4 s5 hs, cR cI (b 1) 6 g0, cR cI (b 2) 6 g1, cR cI (b 3) 12 g3, cR cI (b 8) 12 q8, cR cI (b 9) 12 q9] sz) [cM h b ((pm : Nat) : Int) ((n : Nat) : Int) ((k : Nat) : Int) ((d : Nat) : Int) ((rr : Nat) : Int) ((hd : Nat) : Int) ((sm : Nat) : Int) kr kq ku s0 s1 s2 s3 s4 s5 hs, cR cI (b 1) 6 g0, cR cI (b 2) 6 g1, cR cI (b 3) 12 g3, cR cI (b 8) 12 q8, cR cI (b 9) 12 q9] := hD
    refine W.eq (g2 := F0 m 13 ls [.int (zI (b01 (0 ≤ y2 ∧ y2 < n)))]) rfl ?_
    refine z_if_ne (tgt := 19) hx hb (by have := b01_r (0 ≤ y2 ∧ y2 < n); omega) dX4_odds_13 (by decide) (fun c_13 => ?_) (fun c_13 => ?_)
    · have b_13 := b01_ne c_13
      obtain ⟨q2, rfl⟩ : ∃ q : Nat, y2 = (q : Int) := ⟨y2.toNat, by omega⟩
      refine lv_iload_n hx hb dX4_odds_19 rfl (lv_at hl 3 rfl) ?_
      refine z_i2l hx hb (by omega) dX4_odds_20 ?_
      refine lv_lconst (v := zL 1) hx hb dX4_odds_21 (by decide) ?_
      refine lv_ldc2 (v := zL 8) hx hb hown (hts _ qk_X4_225) dX4_odds_22 ?_
      refine zcall_i (wc := []) (wr := [cM h b ((pm : Nat) : Int) ((n : Nat) : Int) ((k : Nat) : Int) ((d : Nat) : Int) ((rr : Nat) : Int) ((hd : Nat) : Int) ((sm : Nat) : Int) kr kq ku s0 s1 s2 s3 s4 s5 hs, cR cI (b 1) 6 g0, cR cI (b 2) 6 g1, cR cI (b 3) 12 g3, cR cI (b 8) 12 q8, cR cI (b 9) 12 q9]) (rest := []) hE hP hD hS hA [] [0, 1, 2, 3, 4, 5] [0, 1, 2, 3, 4, 5] rfl rfl (by decide) (by decide) (by decide) (fun (u : Unit) => [cM h b ((pm : Nat) : Int) ((n : Nat) : Int) ((k : Nat) : Int) ((d : Nat) : Int) ((rr : Nat) : Int) ((hd : Nat) : Int) ((sm : Nat) : Int) kr kq ku s0 s1 s2 s3 s4 s5 hs, cR cI (b 1) 6 g0, cR cI (b 2) 6 g1, cR cI (b 3) 12 g3, cR cI (b 8) 12 q8, cR cI (b 9) 12 q9]) (fun u => rfl) (fun hPc hDc => zrunS (As := [.long (zL y3), .long (zL 1), .long (zL 8)]) (rest := []) K k_X4_in qm_X4_61 ⟨⟨rfl, rfl⟩, ⟨Nat.le_of_ble_eq_true rfl, Nat.le_of_ble_eq_true rfl⟩⟩ hPc hDc (c_X4_in l D cI y3 1 8 (by first | assumption | omega) (by first | assumption | omega) (by first | assumption | omega) _) rfl hl.1 rfl (Nat.le_of_ble_eq_true rfl) dX4_odds_25 ⟨Nat.zero_le _, Nat.zero_le _⟩) (by decide) (fun z u H locs hpost hP hD hS => ?_)
      subst hpost
      have hP : va_P D cls [cM h b ((pm : Nat) : Int) ((n : Nat) : Int) ((k : Nat) : Int) ((d : Nat) : Int) ((rr : Nat) : Int) ((hd : Nat) : Int) ((sm : Nat) : Int) kr kq ku s0 s1 s2 s3 s4 s5 hs, cR cI (b 1) 6 g0, cR cI (b 2) 6 g1, cR cI (b 3) 12 g3, cR cI (b 8) 12 q8, cR cI (b 9) 12 q9] H := hP
      have hD : va_D (va_A [cM h b ((pm : Nat) : Int) ((n : Nat) : Int) ((k : Nat) : Int) ((d : Nat) : Int) ((rr : Nat) : Int) ((hd : Nat) : Int) ((sm : Nat) : Int) kr kq ku s0 s1 s2 s3 s4 s5 hs, cR cI (b 1) 6 g0, cR cI (b 2) 6 g1, cR cI (b 3) 12 g3, cR cI (b 8) 12 q8, cR cI (b 9) 12 q9] sz) [cM h b ((pm : Nat) : Int) ((n : Nat) : Int) ((k : Nat) : Int) ((d : Nat) : Int) ((rr : Nat) : Int) ((hd : Nat) : Int) ((sm : Nat) : Int) kr kq ku s0 s1 s2 s3 s4 s5 hs, cR cI (b 1) 6 g0, cR cI (b 2) 6 g1, cR cI (b 3) 12 g3, cR cI (b 8) 12 q8, cR cI (b 9) 12 q9] := hD
      refine W.eq (g2 := F0 m 28 ls [.int (zI (b01 (1 ≤ y3 ∧ y3 ≤ 8)))]) rfl ?_
      refine z_if_eq (tgt := 54) hx hb (by have := b01_r (1 ≤ y3 ∧ y3 ≤ 8); omega) dX4_odds_28 (by decide) (fun c_28 => ?_) (fun c_28 => ?_)
      · have b_28 := b01_eq c_28
        refine lv_bipush (v := zI (-102)) hx hb dX4_odds_54 (by decide) ?_
        rw [← hQf]
        exact z_iret K hS (q8, q9) (by first | (simp only [fOdds, chk_t (show q1 < n by omega), chk_t (show q2 < n by omega)]; rw [if_neg (by omega)]; done) | (simp only [fOdds, chk_t (show q1 < n by omega), chk_t (show q2 < n by omega)]; rw [if_pos (by omega)]; simp only [Int.toNat_natCast])) hP hD dX4_odds_56
      · have b_28 := b01_ne c_28
        refine lv_iload hx hb dX4_odds_31 (lv_at hl 4 rfl) ?_
        refine z_i2l hx hb (by omega) dX4_odds_33 ?_
        refine lv_lconst (v := zL 0) hx hb dX4_odds_34 (by decide) ?_
        refine lv_lconst (v := zL 1) hx hb dX4_odds_35 (by decide) ?_
        refine zcall_i (wc := []) (wr := [cM h b ((pm : Nat) : Int) ((n : Nat) : Int) ((k : Nat) : Int) ((d : Nat) : Int) ((rr : Nat) : Int) ((hd : Nat) : Int) ((sm : Nat) : Int) kr kq ku s0 s1 s2 s3 s4 s5 hs, cR cI (b 1) 6 g0, cR cI (b 2) 6 g1, cR cI (b 3) 12 g3, cR cI (b 8) 12 q8, cR cI (b 9) 12 q9]) (rest := []) hE hP hD hS hA [] [0, 1, 2, 3, 4, 5] [0, 1, 2, 3, 4, 5] rfl rfl (by decide) (by decide) (by decide) (fun (u : Unit) => [cM h b ((pm : Nat) : Int) ((n : Nat) : Int) ((k : Nat) : Int) ((d : Nat) : Int) ((rr : Nat) : Int) ((hd : Nat) : Int) ((sm : Nat) : Int) kr kq ku s0 s1 s2 s3 s4 s5 hs, cR cI (b 1) 6 g0, cR cI (b 2) 6 g1, cR cI (b 3) 12 g3, cR cI (b 8) 12 q8, cR cI (b 9) 12 q9]) (fun u => rfl) (fun hPc hDc => zrunS (As := [.long (zL y4), .long (zL 0), .long (zL 1)]) (rest := []) K k_X4_in qm_X4_61 ⟨⟨rfl, rfl⟩, ⟨Nat.le_of_ble_eq_true rfl, Nat.le_of_ble_eq_true rfl⟩⟩ hPc hDc (c_X4_in l D cI y4 0 1 (by first | assumption | omega) (by first | assumption | omega) (by first | assumption | omega) _) rfl hl.1 rfl (Nat.le_of_ble_eq_true rfl) dX4_odds_36 ⟨Nat.zero_le _, Nat.zero_le _⟩) (by decide) (fun z u H locs hpost hP hD hS => ?_)
        subst hpost
        have hP : va_P D cls [cM h b ((pm : Nat) : Int) ((n : Nat) : Int) ((k : Nat) : Int) ((d : Nat) : Int) ((rr : Nat) : Int) ((hd : Nat) : Int) ((sm : Nat) : Int) kr kq ku s0 s1 s2 s3 s4 s5 hs, cR cI (b 1) 6 g0, cR cI (b 2) 6 g1, cR cI (b 3) 12 g3, cR cI (b 8) 12 q8, cR cI (b 9) 12 q9] H := hP
        have hD : va_D (va_A [cM h b ((pm : Nat) : Int) ((n : Nat) : Int) ((k : Nat) : Int) ((d : Nat) : Int) ((rr : Nat) : Int) ((hd : Nat) : Int) ((sm : Nat) : Int) kr kq ku s0 s1 s2 s3 s4 s5 hs, cR cI (b 1) 6 g0, cR cI (b 2) 6 g1, cR cI (b 3) 12 g3, cR cI (b 8) 12 q8, cR cI (b 9) 12 q9] sz) [cM h b ((pm : Nat) : Int) ((n : Nat) : Int) ((k : Nat) : Int) ((d : Nat) : Int) ((rr : Nat) : Int) ((hd : Nat) : Int) ((sm : Nat) : Int) kr kq ku s0 s1 s2 s3 s4 s5 hs, cR cI (b 1) 6 g0, cR cI (b 2) 6 g1, cR cI (b 3) 12 g3, cR cI (b 8) 12 q8, cR cI (b 9) 12 q9] := hD
        refine W.eq (g2 := F0 m 39 ls [.int (zI (b01 (0 ≤ y4 ∧ y4 ≤ 1)))]) rfl ?_
        refine z_if_eq (tgt := 54) hx hb (by have := b01_r (0 ≤ y4 ∧ y4 ≤ 1); omega) dX4_odds_39 (by decide) (fun c_39 => ?_) (fun c_39 => ?_)
        · have b_39 := b01_eq c_39
          refine lv_bipush (v := zI (-102)) hx hb dX4_odds_54 (by decide) ?_
          rw [← hQf]
          exact z_iret K hS (q8, q9) (by first | (simp only [fOdds, chk_t (show q1 < n by omega), chk_t (show q2 < n by omega)]; rw [if_neg (by omega)]; done) | (simp only [fOdds, chk_t (show q1 < n by omega), chk_t (show q2 < n by omega)]; rw [if_pos (by omega)]; simp only [Int.toNat_natCast])) hP hD dX4_odds_56
        · have b_39 := b01_ne c_39
          obtain ⟨q3, rfl⟩ : ∃ q : Nat, y3 = (q : Int) := ⟨y3.toNat, by omega⟩
          obtain ⟨q4, rfl⟩ : ∃ q : Nat, y4 = (q : Int) := ⟨y4.toNat, by omega⟩
          refine lv_aload_n hx hb dX4_odds_42 rfl (lv_at hl 0 rfl) ?_
          refine lv_iload_n hx hb dX4_odds_43 rfl (lv_at hl 1 rfl) ?_
          refine lv_iload_n hx hb dX4_odds_44 rfl (lv_at hl 2 rfl) ?_
          refine lv_iload_n hx hb dX4_odds_45 rfl (lv_at hl 3 rfl) ?_
          refine lv_iload hx hb dX4_odds_46 (lv_at hl 4 rfl) ?_
          refine zcall_i (wc := [cM h b ((pm : Nat) : Int) ((n : Nat) : Int) ((k : Nat) : Int) ((d : Nat) : Int) ((rr : Nat) : Int) ((hd : Nat) : Int) ((sm : Nat) : Int) kr kq ku s0 s1 s2 s3 s4 s5 hs, cR cI (b 1) 6 g0, cR cI (b 2) 6 g1, cR cI (b 3) 12 g3, cR cI (b 8) 12 q8, cR cI (b 9) 12 q9]) (wr := []) (rest := []) hE hP hD hS hA [0, 1, 2, 3, 4, 5] [] [0, 1, 2, 3, 4, 5] rfl rfl (by decide) (by decide) (by decide) (fun (u : (Nat → Int) × (Nat → Int)) => [cM h b ((pm : Nat) : Int) ((n : Nat) : Int) ((k : Nat) : Int) ((d : Nat) : Int) ((rr : Nat) : Int) ((hd : Nat) : Int) ((sm : Nat) : Int) kr kq ku s0 s1 s2 s3 s4 s5 hs, cR cI (b 1) 6 g0, cR cI (b 2) 6 g1, cR cI (b 3) 12 g3, cR cI (b 8) 12 u.1, cR cI (b 9) 12 u.2]) (fun u => rfl) (fun hPc hDc => zrunV (As := [.int (zI ((q1 : Nat) : Int)), .int (zI ((q2 : Nat) : Int)), .int (zI ((q3 : Nat) : Int)), .int (zI ((q4 : Nat) : Int))]) (rest := []) (q0 := 0) (ci := 4) K k_X4_oddsOf qm_X4_227 ⟨⟨rfl, rfl⟩, ⟨Nat.le_of_ble_eq_true rfl, Nat.le_of_ble_eq_true rfl⟩⟩ rfl rfl hPc hDc (c_X4_oddsOf l D cI h b pm n k d rr hd sm kr kq ku s0 s1 s2 s3 s4 s5 hs g0 g1 κ ν g3 q8 q9 π q1 q2 q3 q4 (by first | assumption | omega) (by first | assumption | omega) (by first | assumption | omega) (by first | assumption | omega) (by first | assumption | omega) (by first | assumption | omega) (by first | assumption | omega) (by first | assumption | omega) (by first | assumption | omega) (by first | assumption | omega) (by first | assumption | omega) (by first | assumption | omega) (by first | assumption | omega) (by first | assumption | omega) _) rfl hl.1 rfl (Nat.le_of_ble_eq_true rfl) dX4_odds_48 ⟨Nat.zero_le _, Nat.zero_le _⟩) (by decide) (fun z u H locs hpost hP hD hS => ?_)
          obtain ⟨o_1, o_2⟩ := u
          obtain ⟨rfl, hzr_48⟩ := hpost
          have hzr_48 : -2147483648 ≤ (fOd (mus n κ ν) n k π q1 q2 q3 q4) ∧ (fOd (mus n κ ν) n k π q1 q2 q3 q4) < 2147483648 := hzr_48
          have hP : va_P D cls [cM h b ((pm : Nat) : Int) ((n : Nat) : Int) ((k : Nat) : Int) ((d : Nat) : Int) ((rr : Nat) : Int) ((hd : Nat) : Int) ((sm : Nat) : Int) kr kq ku s0 s1 s2 s3 s4 s5 hs, cR cI (b 1) 6 g0, cR cI (b 2) 6 g1, cR cI (b 3) 12 g3, cR cI (b 8) 12 o_1, cR cI (b 9) 12 o_2] H := hP
          have hD : va_D (va_A [cM h b ((pm : Nat) : Int) ((n : Nat) : Int) ((k : Nat) : Int) ((d : Nat) : Int) ((rr : Nat) : Int) ((hd : Nat) : Int) ((sm : Nat) : Int) kr kq ku s0 s1 s2 s3 s4 s5 hs, cR cI (b 1) 6 g0, cR cI (b 2) 6 g1, cR cI (b 3) 12 g3, cR cI (b 8) 12 q8, cR cI (b 9) 12 q9] sz) [cM h b ((pm : Nat) : Int) ((n : Nat) : Int) ((k : Nat) : Int) ((d : Nat) : Int) ((rr : Nat) : Int) ((hd : Nat) : Int) ((sm : Nat) : Int) kr kq ku s0 s1 s2 s3 s4 s5 hs, cR cI (b 1) 6 g0, cR cI (b 2) 6 g1, cR cI (b 3) 12 g3, cR cI (b 8) 12 o_1, cR cI (b 9) 12 o_2] := hD
          refine W.eq (g2 := F0 m 51 ls [.int (zI (fOd (mus n κ ν) n k π q1 q2 q3 q4))]) rfl ?_
          refine lv_goto (tgt := 56) hx hb dX4_odds_51 (by decide) ?_
          rw [← hQf]
          exact z_iret K hS (o_1, o_2) (by first | (simp only [fOdds, chk_t (show q1 < n by omega), chk_t (show q2 < n by omega)]; rw [if_neg (by omega)]; done) | (simp only [fOdds, chk_t (show q1 < n by omega), chk_t (show q2 < n by omega)]; rw [if_pos (by omega)]; simp only [Int.toNat_natCast])) hP hD dX4_odds_56
    · have b_13 := b01_eq c_13
      refine lv_bipush (v := zI (-101)) hx hb dX4_odds_16 (by decide) ?_
      rw [← hQf]
      exact z_iret K hS (q8, q9) (by first | (simp only [fOdds, chk_f b_5]; done) | simp only [fOdds, chk_t (show q1 < n by omega), chk_f b_13]) hP hD dX4_odds_18
set_option maxHeartbeats 4000000 in
set_option maxRecDepth 100000 in
theorem c_X4_runs (l : Launch) (D : va_G) (cI : ClassId) (h : Nat) (b : Nat → Nat) (pm n k d rr hd sm : Nat) (kr kq ku s0 s1 s2 s3 s4 s5 hs : Int) (g0 g1 g3 gq : Nat → Int) (κ ν π ss sf st : Nat → Nat) (q5 q6 : Nat → Int) (y1 y2 y3 : Int) (hT : MI n k d sm g0 g1 g3 gq κ ν π ss sf st) (hy1 : -2147483648 ≤ y1 ∧ y1 < 2147483648) (hy2 : -2147483648 ≤ y2 ∧ y2 < 2147483648) (hy3 : -2147483648 ≤ y3 ∧ y3 < 2147483648) : zMi l yX4_runs cX4_runs 5 (some .int) ({ frames := 5, cells := 0, slots := 0, locals := 117 }) D cI [.ref h, .int (zI y1), .int (zI y2), .int (zI y3)] [cM h b ((pm : Nat) : Int) ((n : Nat) : Int) ((k : Nat) : Int) ((d : Nat) : Int) ((rr : Nat) : Int) ((hd : Nat) : Int) ((sm : Nat) : Int) kr kq ku s0 s1 s2 s3 s4 s5 hs, cR cI (b 1) 6 g0, cR cI (b 2) 6 g1, cR cI (b 3) 12 g3, cR cI (b 5) 12 q5, cR cI (b 6) 12 q6] (fun (z : Int) (u : (Int) × (Nat → Int) × (Nat → Int)) => z = (fRuns n k κ ν π y1 y2 y3)) (fun (u : (Int) × (Nat → Int) × (Nat → Int)) => [cM h b ((pm : Nat) : Int) ((n : Nat) : Int) ((k : Nat) : Int) ((d : Nat) : Int) ((rr : Nat) : Int) ((hd : Nat) : Int) ((sm : Nat) : Int) kr kq ku s0 s1 s2 s3 s4 u.1 hs, cR cI (b 1) 6 g0, cR cI (b 2) 6 g1, cR cI (b 3) 12 g3, cR cI (b 5) 12 u.2.1, cR cI (b 6) 12 u.2.2]) := by
  intro sz
  refine zstart rfl (by decide) (Nat.le_of_ble_eq_true rfl) ?_
  intro p e s m below meth c ls K hnm hsz hP hD hS hl
  generalize hargs : ([.ref h, .int (zI y1), .int (zI y2), .int (zI y3)] : List Value).toArray = args at K ⊢
  generalize hQf : MQ below _ args s _ _ _ = Qf
  have K : zK p s m args meth c cX4_runs 5 RX4 (some .int) D cI := K
  obtain ⟨hx, hb, hml, hown, hts, hE, -, -⟩ := id K
  have hA := zhA (ws0 := [cM h b ((pm : Nat) : Int) ((n : Nat) : Int) ((k : Nat) : Int) ((d : Nat) : Int) ((rr : Nat) : Int) ((hd : Nat) : Int) ((sm : Nat) : Int) kr kq ku s0 s1 s2 s3 s4 s5 hs, cR cI (b 1) 6 g0, cR cI (b 2) 6 g1, cR cI (b 3) 12 g3, cR cI (b 5) 12 q5, cR cI (b 6) 12 q6]) hsz
  have hl : lv_has ls 5 [(0, .ref h), (1, .int (zI y1)), (2, .int (zI y2)), (3, .int (zI y3))] := hl
  obtain ⟨hnk0, hd0, hv, hg0, hκ, hg1, hν, hg3, hπ, hπi, hq0, hss, hq1, hsf, hq2, hst⟩ := id hT
  have hn12 : n ≤ 12 := by omega
  have hk : k ≤ 6 := by omega
  refine lv_iload_n hx hb dX4_runs_0 rfl (lv_at hl 1 rfl) ?_
  refine z_i2l hx hb (by omega) dX4_runs_1 ?_
  refine lv_lconst (v := zL 1) hx hb dX4_runs_2 (by decide) ?_
  refine lv_ldc2 (v := zL 99) hx hb hown (hts _ qk_X4_241) dX4_runs_3 ?_
  refine zcall_i (wc := []) (wr := [cM h b ((pm : Nat) : Int) ((n : Nat) : Int) ((k : Nat) : Int) ((d : Nat) : Int) ((rr : Nat) : Int) ((hd : Nat) : Int) ((sm : Nat) : Int) kr kq ku s0 s1 s2 s3 s4 s5 hs, cR cI (b 1) 6 g0, cR cI (b 2) 6 g1, cR cI (b 3) 12 g3, cR cI (b 5) 12 q5, cR cI (b 6) 12 q6]) (rest := []) hE hP hD hS hA [] [0, 1, 2, 3, 4, 5] [0, 1, 2, 3, 4, 5] rfl rfl (by decide) (by decide) (by decide) (fun (u : Unit) => [cM h b ((pm : Nat) : Int) ((n : Nat) : Int) ((k : Nat) : Int) ((d : Nat) : Int) ((rr : Nat) : Int) ((hd : Nat) : Int) ((sm : Nat) : Int) kr kq ku s0 s1 s2 s3 s4 s5 hs, cR cI (b 1) 6 g0, cR cI (b 2) 6 g1, cR cI (b 3) 12 g3, cR cI (b 5) 12 q5, cR cI (b 6) 12 q6]) (fun u => rfl) (fun hPc hDc => zrunS (As := [.long (zL y1), .long (zL 1), .long (zL 99)]) (rest := []) K k_X4_in qm_X4_61 ⟨⟨rfl, rfl⟩, ⟨Nat.le_of_ble_eq_true rfl, Nat.le_of_ble_eq_true rfl⟩⟩ hPc hDc (c_X4_in l D cI y1 1 99 (by first | assumption | omega) (by first | assumption | omega) (by first | assumption | omega) _) rfl hl.1 rfl (Nat.le_of_ble_eq_true rfl) dX4_runs_6 ⟨Nat.zero_le _, Nat.zero_le _⟩) (by decide) (fun z u H locs hpost hP hD hS => ?_)
  subst hpost
  have hP : va_P D cls [cM h b ((pm : Nat) : Int) ((n : Nat) : Int) ((k : Nat) : Int) ((d : Nat) : Int) ((rr : Nat) : Int) ((hd : Nat) : Int) ((sm : Nat) : Int) kr kq ku s0 s1 s2 s3 s4 s5 hs, cR cI (b 1) 6 g0, cR cI (b 2) 6 g1, cR cI (b 3) 12 g3, cR cI (b 5) 12 q5, cR cI (b 6) 12 q6] H := hP
  have hD : va_D (va_A [cM h b ((pm : Nat) : Int) ((n : Nat) : Int) ((k : Nat) : Int) ((d : Nat) : Int) ((rr : Nat) : Int) ((hd : Nat) : Int) ((sm : Nat) : Int) kr kq ku s0 s1 s2 s3 s4 s5 hs, cR cI (b 1) 6 g0, cR cI (b 2) 6 g1, cR cI (b 3) 12 g3, cR cI (b 5) 12 q5, cR cI (b 6) 12 q6] sz) [cM h b ((pm : Nat) : Int) ((n : Nat) : Int) ((k : Nat) : Int) ((d : Nat) : Int) ((rr : Nat) : Int) ((hd : Nat) : Int) ((sm : Nat) : Int) kr kq ku s0 s1 s2 s3 s4 s5 hs, cR cI (b 1) 6 g0, cR cI (b 2) 6 g1, cR cI (b 3) 12 g3, cR cI (b 5) 12 q5, cR cI (b 6) 12 q6] := hD
  refine W.eq (g2 := F0 m 9 ls [.int (zI (b01 (1 ≤ y1 ∧ y1 ≤ 99)))]) rfl ?_
  refine z_if_eq (tgt := 28) hx hb (by have := b01_r (1 ≤ y1 ∧ y1 ≤ 99); omega) dX4_runs_9 (by decide) (fun c_9 => ?_) (fun c_9 => ?_)
  · have b_9 := b01_eq c_9
    refine lv_bipush (v := zI (-102)) hx hb dX4_runs_28 (by decide) ?_
    rw [← hQf]
    exact z_iret K hS (s5, q5, q6) (by rw [fRuns, if_neg (by omega)]) hP hD dX4_runs_30
  · have b_9 := b01_ne c_9
    obtain ⟨q1, rfl⟩ : ∃ q : Nat, y1 = (q : Int) := ⟨y1.toNat, by omega⟩
    refine lv_iload_n hx hb dX4_runs_12 rfl (lv_at hl 2 rfl) ?_
    refine z_if_lt (tgt := 28) hx hb (by omega) dX4_runs_13 (by decide) (fun c_13 => ?_) (fun c_13 => ?_)
    · refine lv_bipush (v := zI (-102)) hx hb dX4_runs_28 (by decide) ?_
      rw [← hQf]
      exact z_iret K hS (s5, q5, q6) (by rw [fRuns, if_neg (by omega)]) hP hD dX4_runs_30
    · obtain ⟨q2, rfl⟩ : ∃ q : Nat, y2 = (q : Int) := ⟨y2.toNat, by omega⟩
      refine lv_iload_n hx hb dX4_runs_16 rfl (lv_at hl 3 rfl) ?_
      refine z_i2l hx hb (by omega) dX4_runs_17 ?_
      refine lv_lconst (v := zL 0) hx hb dX4_runs_18 (by decide) ?_
      refine lv_ldc2 (v := zL 2) hx hb hown (hts _ qk_X4_243) dX4_runs_19 ?_
      refine zcall_i (wc := []) (wr := [cM h b ((pm : Nat) : Int) ((n : Nat) : Int) ((k : Nat) : Int) ((d : Nat) : Int) ((rr : Nat) : Int) ((hd : Nat) : Int) ((sm : Nat) : Int) kr kq ku s0 s1 s2 s3 s4 s5 hs, cR cI (b 1) 6 g0, cR cI (b 2) 6 g1, cR cI (b 3) 12 g3, cR cI (b 5) 12 q5, cR cI (b 6) 12 q6]) (rest := []) hE hP hD hS hA [] [0, 1, 2, 3, 4, 5] [0, 1, 2, 3, 4, 5] rfl rfl (by decide) (by decide) (by decide) (fun (u : Unit) => [cM h b ((pm : Nat) : Int) ((n : Nat) : Int) ((k : Nat) : Int) ((d : Nat) : Int) ((rr : Nat) : Int) ((hd : Nat) : Int) ((sm : Nat) : Int) kr kq ku s0 s1 s2 s3 s4 s5 hs, cR cI (b 1) 6 g0, cR cI (b 2) 6 g1, cR cI (b 3) 12 g3, cR cI (b 5) 12 q5, cR cI (b 6) 12 q6]) (fun u => rfl) (fun hPc hDc => zrunS (As := [.long (zL y3), .long (zL 0), .long (zL 2)]) (rest := []) K k_X4_in qm_X4_61 ⟨⟨rfl, rfl⟩, ⟨Nat.le_of_ble_eq_true rfl, Nat.le_of_ble_eq_true rfl⟩⟩ hPc hDc (c_X4_in l D cI y3 0 2 (by first | assumption | omega) (by first | assumption | omega) (by first | assumption | omega) _) rfl hl.1 rfl (Nat.le_of_ble_eq_true rfl) dX4_runs_22 ⟨Nat.zero_le _, Nat.zero_le _⟩) (by decide) (fun z u H locs hpost hP hD hS => ?_)
      subst hpost
      have hP : va_P D cls [cM h b ((pm : Nat) : Int) ((n : Nat) : Int) ((k : Nat) : Int) ((d : Nat) : Int) ((rr : Nat) : Int) ((hd : Nat) : Int) ((sm : Nat) : Int) kr kq ku s0 s1 s2 s3 s4 s5 hs, cR cI (b 1) 6 g0, cR cI (b 2) 6 g1, cR cI (b 3) 12 g3, cR cI (b 5) 12 q5, cR cI (b 6) 12 q6] H := hP
      have hD : va_D (va_A [cM h b ((pm : Nat) : Int) ((n : Nat) : Int) ((k : Nat) : Int) ((d : Nat) : Int) ((rr : Nat) : Int) ((hd : Nat) : Int) ((sm : Nat) : Int) kr kq ku s0 s1 s2 s3 s4 s5 hs, cR cI (b 1) 6 g0, cR cI (b 2) 6 g1, cR cI (b 3) 12 g3, cR cI (b 5) 12 q5, cR cI (b 6) 12 q6] sz) [cM h b ((pm : Nat) : Int) ((n : Nat) : Int) ((k : Nat) : Int) ((d : Nat) : Int) ((rr : Nat) : Int) ((hd : Nat) : Int) ((sm : Nat) : Int) kr kq ku s0 s1 s2 s3 s4 s5 hs, cR cI (b 1) 6 g0, cR cI (b 2) 6 g1, cR cI (b 3) 12 g3, cR cI (b 5) 12 q5, cR cI (b 6) 12 q6] := hD
      refine W.eq (g2 := F0 m 25 ls [.int (zI (b01 (0 ≤ y3 ∧ y3 ≤ 2)))]) rfl ?_
      refine z_if_ne (tgt := 31) hx hb (by have := b01_r (0 ≤ y3 ∧ y3 ≤ 2); omega) dX4_runs_25 (by decide) (fun c_25 => ?_) (fun c_25 => ?_)
      · have b_25 := b01_ne c_25
        obtain ⟨q3, rfl⟩ : ∃ q : Nat, y3 = (q : Int) := ⟨y3.toNat, by omega⟩
        have hfr : fRuns n k κ ν π ((q1 : Nat) : Int) ((q2 : Nat) : Int) ((q3 : Nat) : Int) = if k = 0 then -103 else fRn (mus n κ ν) n k π q1 q2 q3 := by rw [fRuns, if_pos (by omega)]; simp only [Int.toNat_natCast]
        refine lv_aload_n hx hb dX4_runs_31 rfl (lv_at hl 0 rfl) ?_
        refine zcall_i (wc := [cM h b ((pm : Nat) : Int) ((n : Nat) : Int) ((k : Nat) : Int) ((d : Nat) : Int) ((rr : Nat) : Int) ((hd : Nat) : Int) ((sm : Nat) : Int) kr kq ku s0 s1 s2 s3 s4 s5 hs]) (wr := [cR cI (b 1) 6 g0, cR cI (b 2) 6 g1, cR cI (b 3) 12 g3, cR cI (b 5) 12 q5, cR cI (b 6) 12 q6]) (rest := []) hE hP hD hS hA [0] [1, 2, 3, 4, 5] [5, 0, 1, 2, 3, 4] rfl rfl (by decide) (by decide) (by decide) (fun (u : Unit) => [cM h b ((pm : Nat) : Int) ((n : Nat) : Int) ((k : Nat) : Int) ((d : Nat) : Int) ((rr : Nat) : Int) ((hd : Nat) : Int) ((sm : Nat) : Int) kr kq ku s0 s1 s2 s3 s4 s5 hs, cR cI (b 1) 6 g0, cR cI (b 2) 6 g1, cR cI (b 3) 12 g3, cR cI (b 5) 12 q5, cR cI (b 6) 12 q6]) (fun u => rfl) (fun hPc hDc => zrunV (As := []) (rest := []) (q0 := 0) (ci := 4) K k_X4_lacks qm_X4_160 ⟨⟨rfl, rfl⟩, ⟨Nat.le_of_ble_eq_true rfl, Nat.le_of_ble_eq_true rfl⟩⟩ rfl rfl hPc hDc (c_X4_lacks l D cI h b pm n k d rr hd sm kr kq ku s0 s1 s2 s3 s4 s5 hs (by first | assumption | omega) _) rfl hl.1 rfl (Nat.le_of_ble_eq_true rfl) dX4_runs_32 ⟨Nat.zero_le _, Nat.zero_le _⟩) (by decide) (fun z u H locs hpost hP hD hS => ?_)
        subst hpost
        have hP : va_P D cls [cM h b ((pm : Nat) : Int) ((n : Nat) : Int) ((k : Nat) : Int) ((d : Nat) : Int) ((rr : Nat) : Int) ((hd : Nat) : Int) ((sm : Nat) : Int) kr kq ku s0 s1 s2 s3 s4 s5 hs, cR cI (b 1) 6 g0, cR cI (b 2) 6 g1, cR cI (b 3) 12 g3, cR cI (b 5) 12 q5, cR cI (b 6) 12 q6] H := hP
        have hD : va_D (va_A [cM h b ((pm : Nat) : Int) ((n : Nat) : Int) ((k : Nat) : Int) ((d : Nat) : Int) ((rr : Nat) : Int) ((hd : Nat) : Int) ((sm : Nat) : Int) kr kq ku s0 s1 s2 s3 s4 s5 hs, cR cI (b 1) 6 g0, cR cI (b 2) 6 g1, cR cI (b 3) 12 g3, cR cI (b 5) 12 q5, cR cI (b 6) 12 q6] sz) [cM h b ((pm : Nat) : Int) ((n : Nat) : Int) ((k : Nat) : Int) ((d : Nat) : Int) ((rr : Nat) : Int) ((hd : Nat) : Int) ((sm : Nat) : Int) kr kq ku s0 s1 s2 s3 s4 s5 hs, cR cI (b 1) 6 g0, cR cI (b 2) 6 g1, cR cI (b 3) 12 g3, cR cI (b 5) 12 q5, cR cI (b 6) 12 q6] := hD
        refine W.eq (g2 := F0 m 35 ls [.int (zI (b01 (k = 0)))]) rfl ?_
        refine z_if_eq (tgt := 41) hx hb (by have := b01_r (k = 0); omega) dX4_runs_35 (by decide) (fun c_35 => ?_) (fun c_35 => ?_)
        · have b_35 := b01_eq c_35
          have hn : 2 ≤ n ∧ n ≤ 12 := by omega
          have hμ := mus_lt (k := k) hn12 hκ hν
          have hμi := mus_inj (k := k) hn12 hκ hν
          refine lv_aload_n hx hb dX4_runs_41 rfl (lv_at hl 0 rfl) ?_
          refine lv_iload_n hx hb dX4_runs_42 rfl (lv_at hl 2 rfl) ?_
          refine va_put (D := D) (ci := 4) (v := .int (zI ((q2 : Nat) : Int))) (ty := .int) (C := RX4) (T := TX4) (N := 32) hx hb hts inT_X4 tyX4 tyX4_ok nmX4 hown hE.1 hP hD hS 0 rfl rfl 23 (by decide) (hts _ qf_X4_233) (fun _ h9 => h9) rfl (by decide +kernel) rfl rfl (Nat.le_of_ble_eq_true rfl) dX4_runs_43 (fun H locs hP hD hS => ?_)
          have hP : va_P D cls [cM h b ((pm : Nat) : Int) ((n : Nat) : Int) ((k : Nat) : Int) ((d : Nat) : Int) ((rr : Nat) : Int) ((hd : Nat) : Int) ((sm : Nat) : Int) kr kq ku s0 s1 s2 s3 s4 ((q2 : Nat) : Int) hs, cR cI (b 1) 6 g0, cR cI (b 2) 6 g1, cR cI (b 3) 12 g3, cR cI (b 5) 12 q5, cR cI (b 6) 12 q6] H := hP
          have hD : va_D (va_A [cM h b ((pm : Nat) : Int) ((n : Nat) : Int) ((k : Nat) : Int) ((d : Nat) : Int) ((rr : Nat) : Int) ((hd : Nat) : Int) ((sm : Nat) : Int) kr kq ku s0 s1 s2 s3 s4 s5 hs, cR cI (b 1) 6 g0, cR cI (b 2) 6 g1, cR cI (b 3) 12 g3, cR cI (b 5) 12 q5, cR cI (b 6) 12 q6] sz) [cM h b ((pm : Nat) : Int) ((n : Nat) : Int) ((k : Nat) : Int) ((d : Nat) : Int) ((rr : Nat) : Int) ((hd : Nat) : Int) ((sm : Nat) : Int) kr kq ku s0 s1 s2 s3 s4 ((q2 : Nat) : Int) hs, cR cI (b 1) 6 g0, cR cI (b 2) 6 g1, cR cI (b 3) 12 g3, cR cI (b 5) 12 q5, cR cI (b 6) 12 q6] := hD
          refine lv_aload_n hx hb dX4_runs_46 rfl (lv_at hl 0 rfl) ?_
          refine va_get (D := D) (ci := 4) (v := .ref (b 3)) (C := RX4) (T := TX4) (N := 32) hx hb hts inT_X4 hown hE.1 hP 0 rfl rfl 8 (by decide) (hts _ qf_X4_19) (fun _ h9 => h9) rfl dX4_runs_47 ?_
          refine lv_aload_n hx hb dX4_runs_50 rfl (lv_at hl 0 rfl) ?_
          refine va_get (D := D) (ci := 4) (v := .ref (b 5)) (C := RX4) (T := TX4) (N := 32) hx hb hts inT_X4 hown hE.1 hP 0 rfl rfl 14 (by decide) (hts _ qf_X4_25) (fun _ h9 => h9) rfl dX4_runs_51 ?_
          refine zcall_v (wc := [cR cI (b 3) 12 g3, cR cI (b 5) 12 q5]) (wr := [cM h b ((pm : Nat) : Int) ((n : Nat) : Int) ((k : Nat) : Int) ((d : Nat) : Int) ((rr : Nat) : Int) ((hd : Nat) : Int) ((sm : Nat) : Int) kr kq ku s0 s1 s2 s3 s4 ((q2 : Nat) : Int) hs, cR cI (b 1) 6 g0, cR cI (b 2) 6 g1, cR cI (b 6) 12 q6]) (rest := []) hE hP hD hS hA [3, 4] [0, 1, 2, 5] [0, 1, 2, 4, 5, 3] rfl rfl (by decide) (by decide) (by decide) (fun (u : Unit) => [cM h b ((pm : Nat) : Int) ((n : Nat) : Int) ((k : Nat) : Int) ((d : Nat) : Int) ((rr : Nat) : Int) ((hd : Nat) : Int) ((sm : Nat) : Int) kr kq ku s0 s1 s2 s3 s4 ((q2 : Nat) : Int) hs, cR cI (b 1) 6 g0, cR cI (b 2) 6 g1, cR cI (b 3) 12 g3, cR cI (b 5) 12 (zcp g3 q5 12), cR cI (b 6) 12 q6]) (fun u => rfl) (fun hPc hDc => zrunS (As := [.ref (b 3), .ref (b 5)]) (rest := []) K k_X4_copy qm_X4_186 ⟨⟨rfl, rfl⟩, ⟨Nat.le_of_ble_eq_true rfl, Nat.le_of_ble_eq_true rfl⟩⟩ hPc hDc (c_X4_copy l D cI (b 3) (b 5) 12 12 g3 q5 (by first | assumption | omega) (by first | assumption | omega) _) rfl hl.1 rfl (Nat.le_of_ble_eq_true rfl) dX4_runs_54 ⟨Nat.zero_le _, Nat.zero_le _⟩) (by decide) (fun u H locs hpost hP hD hS => ?_)
          have hP : va_P D cls [cM h b ((pm : Nat) : Int) ((n : Nat) : Int) ((k : Nat) : Int) ((d : Nat) : Int) ((rr : Nat) : Int) ((hd : Nat) : Int) ((sm : Nat) : Int) kr kq ku s0 s1 s2 s3 s4 ((q2 : Nat) : Int) hs, cR cI (b 1) 6 g0, cR cI (b 2) 6 g1, cR cI (b 3) 12 g3, cR cI (b 5) 12 (zcp g3 q5 12), cR cI (b 6) 12 q6] H := hP
          have hD : va_D (va_A [cM h b ((pm : Nat) : Int) ((n : Nat) : Int) ((k : Nat) : Int) ((d : Nat) : Int) ((rr : Nat) : Int) ((hd : Nat) : Int) ((sm : Nat) : Int) kr kq ku s0 s1 s2 s3 s4 s5 hs, cR cI (b 1) 6 g0, cR cI (b 2) 6 g1, cR cI (b 3) 12 g3, cR cI (b 5) 12 q5, cR cI (b 6) 12 q6] sz) [cM h b ((pm : Nat) : Int) ((n : Nat) : Int) ((k : Nat) : Int) ((d : Nat) : Int) ((rr : Nat) : Int) ((hd : Nat) : Int) ((sm : Nat) : Int) kr kq ku s0 s1 s2 s3 s4 ((q2 : Nat) : Int) hs, cR cI (b 1) 6 g0, cR cI (b 2) 6 g1, cR cI (b 3) 12 g3, cR cI (b 5) 12 (zcp g3 q5 12), cR cI (b 6) 12 q6] := hD
          refine lv_iconst (v := zI 0) hx hb dX4_runs_57 rfl ?_
          refine lv_istore (lv' := [(4, .int (zI 0)), (0, .ref h), (1, .int (zI ((q1 : Nat) : Int))), (2, .int (zI ((q2 : Nat) : Int))), (3, .int (zI ((q3 : Nat) : Int)))]) hx hb dX4_runs_58 hl (by decide) rfl (fun ls hl => ?_)
          have cut_60 : ∀ (N_60 : Nat), ∀ (i : Nat) (r5 r6 : Nat → Int), q1 - i < N_60 → (i ≤ q1) → (∀ j, j < n → r5 j = ((pa (wq (mus n κ ν) k q2 i) n π j : Nat) : Int)) → ∀ (H : Heap) (locs : List Loc) (ls : Array Slot), va_P D cls [cM h b ((pm : Nat) : Int) ((n : Nat) : Int) ((k : Nat) : Int) ((d : Nat) : Int) ((rr : Nat) : Int) ((hd : Nat) : Int) ((sm : Nat) : Int) kr kq ku s0 s1 s2 s3 s4 (((sdN q2 i) : Nat) : Int) hs, cR cI (b 1) 6 g0, cR cI (b 2) 6 g1, cR cI (b 3) 12 g3, cR cI (b 5) 12 r5, cR cI (b 6) 12 r6] H → va_D (va_A [cM h b ((pm : Nat) : Int) ((n : Nat) : Int) ((k : Nat) : Int) ((d : Nat) : Int) ((rr : Nat) : Int) ((hd : Nat) : Int) ((sm : Nat) : Int) kr kq ku s0 s1 s2 s3 s4 s5 hs, cR cI (b 1) 6 g0, cR cI (b 2) 6 g1, cR cI (b 3) 12 g3, cR cI (b 5) 12 q5, cR cI (b 6) 12 q6] sz) [cM h b ((pm : Nat) : Int) ((n : Nat) : Int) ((k : Nat) : Int) ((d : Nat) : Int) ((rr : Nat) : Int) ((hd : Nat) : Int) ((sm : Nat) : Int) kr kq ku s0 s1 s2 s3 s4 (((sdN q2 i) : Nat) : Int) hs, cR cI (b 1) 6 g0, cR cI (b 2) 6 g1, cR cI (b 3) 12 g3, cR cI (b 5) 12 r5, cR cI (b 6) 12 r6] → va_S (va_A [cM h b ((pm : Nat) : Int) ((n : Nat) : Int) ((k : Nat) : Int) ((d : Nat) : Int) ((rr : Nat) : Int) ((hd : Nat) : Int) ((sm : Nat) : Int) kr kq ku s0 s1 s2 s3 s4 s5 hs, cR cI (b 1) 6 g0, cR cI (b 2) 6 g1, cR cI (b 3) 12 g3, cR cI (b 5) 12 q5, cR cI (b 6) 12 q6] sz) s.heap H locs → lv_has ls 5 [(0, .ref h), (1, .int (zI ((q1 : Nat) : Int))), (2, .int (zI ((q2 : Nat) : Int))), (3, .int (zI ((q3 : Nat) : Int))), (4, .int (zI ((i : Nat) : Int)))] → W p l e ({ frames := 5, cells := 0, slots := 0, locals := 117 }) s m args below meth c H locs 0 0 Qf (F0 m 60 ls []) := by
            intro N_60
            induction N_60 with
            | zero => intro i r5 r6 hm_60; exact absurd hm_60 (Nat.not_lt_zero _)
            | succ N_60 ih_60 =>
              intro i r5 r6 hm_60 hi hr5 H locs ls hP hD hS hl
              refine lv_iload hx hb dX4_runs_60 (lv_at hl 4 rfl) ?_
              refine lv_iload_n hx hb dX4_runs_62 rfl (lv_at hl 1 rfl) ?_
              refine z_icmp_ge (tgt := 84) hx hb (by omega) dX4_runs_63 (by decide) (fun c_63 => ?_) (fun c_63 => ?_)
              · have hiq : i = q1 := by omega
                have hwl : ∀ j, j < n → wq (mus n κ ν) k q2 i j < n := wq_lt (by omega) hμ i
                have hwi := wq_inj (s0 := q2) (show 0 < k by omega) hμ hμi i
                refine lv_iload_n hx hb dX4_runs_84 rfl (lv_at hl 3 rfl) ?_
                refine z_if_ne (tgt := 99) hx hb (by omega) dX4_runs_85 (by decide) (fun c_85 => ?_) (fun c_85 => ?_)
                · refine lv_iload_n hx hb dX4_runs_99 rfl (lv_at hl 3 rfl) ?_
                  refine lv_iconst (v := zI 1) hx hb dX4_runs_100 rfl ?_
                  refine z_icmp_ne (tgt := 113) hx hb (by omega) dX4_runs_101 (by decide) (fun c_101 => ?_) (fun c_101 => ?_)
                  · refine lv_aload_n hx hb dX4_runs_113 rfl (lv_at hl 0 rfl) ?_
                    refine va_get (D := D) (ci := 4) (v := .int (zI (((sdN q2 i) : Nat) : Int))) (C := RX4) (T := TX4) (N := 32) hx hb hts inT_X4 hown hE.1 hP 0 rfl rfl 23 (by decide) (hts _ qf_X4_233) (fun _ h9 => h9) rfl dX4_runs_114 ?_
                    rw [← hQf]
                    exact z_iret K hS ((((sdN q2 i) : Nat) : Int), r5, r6) (by rw [hfr, if_neg (by omega), fRn]; first | (rw [if_pos (by omega), ct_pa hwl hwi, hiq]; done) | (rw [if_neg (by omega), if_pos (by omega), hiq]; done) | (rw [if_neg (by omega), if_neg (by omega), hiq])) hP hD dX4_runs_117
                  · refine lv_aload_n hx hb dX4_runs_104 rfl (lv_at hl 0 rfl) ?_
                    refine va_get (D := D) (ci := 4) (v := .ref (b 5)) (C := RX4) (T := TX4) (N := 32) hx hb hts inT_X4 hown hE.1 hP 0 rfl rfl 14 (by decide) (hts _ qf_X4_25) (fun _ h9 => h9) rfl dX4_runs_105 ?_
                    refine lv_iconst (v := zI 0) hx hb dX4_runs_108 rfl ?_
                    refine z_iald hx hb hE hP 4 rfl 0 (by omega) (by omega) (by first | decide | omega) ((pa (wq (mus n κ ν) k q2 i) n π 0 : Nat) : Int) (hr5 0 (by omega)) dX4_runs_109 ?_
                    refine lv_goto (tgt := 117) hx hb dX4_runs_110 (by decide) ?_
                    rw [← hQf]
                    exact z_iret K hS ((((sdN q2 i) : Nat) : Int), r5, r6) (by rw [hfr, if_neg (by omega), fRn]; first | (rw [if_pos (by omega), ct_pa hwl hwi, hiq]; done) | (rw [if_neg (by omega), if_pos (by omega), hiq]; done) | (rw [if_neg (by omega), if_neg (by omega), hiq])) hP hD dX4_runs_117
                · refine lv_aload_n hx hb dX4_runs_88 rfl (lv_at hl 0 rfl) ?_
                  refine lv_aload_n hx hb dX4_runs_89 rfl (lv_at hl 0 rfl) ?_
                  refine va_get (D := D) (ci := 4) (v := .ref (b 5)) (C := RX4) (T := TX4) (N := 32) hx hb hts inT_X4 hown hE.1 hP 0 rfl rfl 14 (by decide) (hts _ qf_X4_25) (fun _ h9 => h9) rfl dX4_runs_90 ?_
                  refine zcall_i (wc := [cM h b ((pm : Nat) : Int) ((n : Nat) : Int) ((k : Nat) : Int) ((d : Nat) : Int) ((rr : Nat) : Int) ((hd : Nat) : Int) ((sm : Nat) : Int) kr kq ku s0 s1 s2 s3 s4 (((sdN q2 i) : Nat) : Int) hs, cR cI (b 5) 12 r5]) (wr := [cR cI (b 1) 6 g0, cR cI (b 2) 6 g1, cR cI (b 3) 12 g3, cR cI (b 6) 12 r6]) (rest := []) hE hP hD hS hA [0, 4] [1, 2, 3, 5] [4, 0, 1, 2, 5, 3] rfl rfl (by decide) (by decide) (by decide) (fun (u : Unit) => [cM h b ((pm : Nat) : Int) ((n : Nat) : Int) ((k : Nat) : Int) ((d : Nat) : Int) ((rr : Nat) : Int) ((hd : Nat) : Int) ((sm : Nat) : Int) kr kq ku s0 s1 s2 s3 s4 (((sdN q2 i) : Nat) : Int) hs, cR cI (b 1) 6 g0, cR cI (b 2) 6 g1, cR cI (b 3) 12 g3, cR cI (b 5) 12 r5, cR cI (b 6) 12 r6]) (fun u => rfl) (fun hPc hDc => zrunV (As := [.ref (b 5)]) (rest := []) (q0 := 0) (ci := 4) K k_X4_homely qm_X4_194 ⟨⟨rfl, rfl⟩, ⟨Nat.le_of_ble_eq_true rfl, Nat.le_of_ble_eq_true rfl⟩⟩ rfl rfl hPc hDc (c_X4_homely l D cI h b pm n k d rr hd sm kr kq ku s0 s1 s2 s3 s4 (((sdN q2 i) : Nat) : Int) hs (b 5) r5 (pa (wq (mus n κ ν) k q2 i) n π) (by first | assumption | omega) hr5 (pa_lt hwl hwi hπ) _) rfl hl.1 rfl (Nat.le_of_ble_eq_true rfl) dX4_runs_93 ⟨Nat.zero_le _, Nat.zero_le _⟩) (by decide) (fun z u H locs hpost hP hD hS => ?_)
                  subst hpost
                  have hP : va_P D cls [cM h b ((pm : Nat) : Int) ((n : Nat) : Int) ((k : Nat) : Int) ((d : Nat) : Int) ((rr : Nat) : Int) ((hd : Nat) : Int) ((sm : Nat) : Int) kr kq ku s0 s1 s2 s3 s4 (((sdN q2 i) : Nat) : Int) hs, cR cI (b 1) 6 g0, cR cI (b 2) 6 g1, cR cI (b 3) 12 g3, cR cI (b 5) 12 r5, cR cI (b 6) 12 r6] H := hP
                  have hD : va_D (va_A [cM h b ((pm : Nat) : Int) ((n : Nat) : Int) ((k : Nat) : Int) ((d : Nat) : Int) ((rr : Nat) : Int) ((hd : Nat) : Int) ((sm : Nat) : Int) kr kq ku s0 s1 s2 s3 s4 s5 hs, cR cI (b 1) 6 g0, cR cI (b 2) 6 g1, cR cI (b 3) 12 g3, cR cI (b 5) 12 q5, cR cI (b 6) 12 q6] sz) [cM h b ((pm : Nat) : Int) ((n : Nat) : Int) ((k : Nat) : Int) ((d : Nat) : Int) ((rr : Nat) : Int) ((hd : Nat) : Int) ((sm : Nat) : Int) kr kq ku s0 s1 s2 s3 s4 (((sdN q2 i) : Nat) : Int) hs, cR cI (b 1) 6 g0, cR cI (b 2) 6 g1, cR cI (b 3) 12 g3, cR cI (b 5) 12 r5, cR cI (b 6) 12 r6] := hD
                  refine W.eq (g2 := F0 m 96 ls [.int (zI (((fb_ct (fun j => decide ((pa (wq (mus n κ ν) k q2 i) n π) j = j)) n) : Nat) : Int))]) rfl ?_
                  refine lv_goto (tgt := 117) hx hb dX4_runs_96 (by decide) ?_
                  rw [← hQf]
                  exact z_iret K hS ((((sdN q2 i) : Nat) : Int), r5, r6) (by rw [hfr, if_neg (by omega), fRn]; first | (rw [if_pos (by omega), ct_pa hwl hwi, hiq]; done) | (rw [if_neg (by omega), if_pos (by omega), hiq]; done) | (rw [if_neg (by omega), if_neg (by omega), hiq])) hP hD dX4_runs_117
              · refine lv_aload_n hx hb dX4_runs_66 rfl (lv_at hl 0 rfl) ?_
                refine lv_aload_n hx hb dX4_runs_67 rfl (lv_at hl 0 rfl) ?_
                refine lv_aload_n hx hb dX4_runs_68 rfl (lv_at hl 0 rfl) ?_
                refine va_get (D := D) (ci := 4) (v := .int (zI ((k : Nat) : Int))) (C := RX4) (T := TX4) (N := 32) hx hb hts inT_X4 hown hE.1 hP 0 rfl rfl 3 (by decide) (hts _ qf_X4_89) (fun _ h9 => h9) rfl dX4_runs_69 ?_
                refine zcall_i (wc := [cM h b ((pm : Nat) : Int) ((n : Nat) : Int) ((k : Nat) : Int) ((d : Nat) : Int) ((rr : Nat) : Int) ((hd : Nat) : Int) ((sm : Nat) : Int) kr kq ku s0 s1 s2 s3 s4 (((sdN q2 i) : Nat) : Int) hs]) (wr := [cR cI (b 1) 6 g0, cR cI (b 2) 6 g1, cR cI (b 3) 12 g3, cR cI (b 5) 12 r5, cR cI (b 6) 12 r6]) (rest := [.ref h]) hE hP hD hS hA [0] [1, 2, 3, 4, 5] [5, 0, 1, 2, 3, 4] rfl rfl (by decide) (by decide) (by decide) (fun (u : Unit) => [cM h b ((pm : Nat) : Int) ((n : Nat) : Int) ((k : Nat) : Int) ((d : Nat) : Int) ((rr : Nat) : Int) ((hd : Nat) : Int) ((sm : Nat) : Int) kr kq ku s0 s1 s2 s3 s4 ((((1103515245 * (sdN q2 i) + 12345) % 2147483648) : Nat) : Int) hs, cR cI (b 1) 6 g0, cR cI (b 2) 6 g1, cR cI (b 3) 12 g3, cR cI (b 5) 12 r5, cR cI (b 6) 12 r6]) (fun u => rfl) (fun hPc hDc => zrunV (As := [.int (zI ((k : Nat) : Int))]) (rest := [.ref h]) (q0 := 0) (ci := 4) K k_X4_draw qm_X4_245 ⟨⟨rfl, rfl⟩, ⟨Nat.le_of_ble_eq_true rfl, Nat.le_of_ble_eq_true rfl⟩⟩ rfl rfl hPc hDc (c_X4_draw l D cI h b pm n k d rr hd sm kr kq ku s0 s1 s2 s3 s4 hs (sdN q2 i) k (sdN_lt (by omega) i) (by first | assumption | omega) _) rfl hl.1 rfl (Nat.le_of_ble_eq_true rfl) dX4_runs_72 ⟨Nat.zero_le _, Nat.zero_le _⟩) (by decide) (fun z u H locs hpost hP hD hS => ?_)
                subst hpost
                have hP : va_P D cls [cM h b ((pm : Nat) : Int) ((n : Nat) : Int) ((k : Nat) : Int) ((d : Nat) : Int) ((rr : Nat) : Int) ((hd : Nat) : Int) ((sm : Nat) : Int) kr kq ku s0 s1 s2 s3 s4 ((((1103515245 * (sdN q2 i) + 12345) % 2147483648) : Nat) : Int) hs, cR cI (b 1) 6 g0, cR cI (b 2) 6 g1, cR cI (b 3) 12 g3, cR cI (b 5) 12 r5, cR cI (b 6) 12 r6] H := hP
                have hD : va_D (va_A [cM h b ((pm : Nat) : Int) ((n : Nat) : Int) ((k : Nat) : Int) ((d : Nat) : Int) ((rr : Nat) : Int) ((hd : Nat) : Int) ((sm : Nat) : Int) kr kq ku s0 s1 s2 s3 s4 s5 hs, cR cI (b 1) 6 g0, cR cI (b 2) 6 g1, cR cI (b 3) 12 g3, cR cI (b 5) 12 q5, cR cI (b 6) 12 q6] sz) [cM h b ((pm : Nat) : Int) ((n : Nat) : Int) ((k : Nat) : Int) ((d : Nat) : Int) ((rr : Nat) : Int) ((hd : Nat) : Int) ((sm : Nat) : Int) kr kq ku s0 s1 s2 s3 s4 ((((1103515245 * (sdN q2 i) + 12345) % 2147483648) : Nat) : Int) hs, cR cI (b 1) 6 g0, cR cI (b 2) 6 g1, cR cI (b 3) 12 g3, cR cI (b 5) 12 r5, cR cI (b 6) 12 r6] := hD
                refine W.eq (g2 := F0 m 75 ls [.int (zI ((((1103515245 * (sdN q2 i) + 12345) % 2147483648 / 65536 % k) : Nat) : Int)), .ref h]) rfl ?_
                refine W.eq (g2 := F0 m 75 ls [.int (zI (((sdN q2 (i + 1) / 65536 % k) : Nat) : Int)), .ref h]) (by rw [show (((((1103515245 * (sdN q2 i) + 12345) % 2147483648 / 65536 % k) : Nat) : Int) : Int) = (((sdN q2 (i + 1) / 65536 % k) : Nat) : Int) from by rfl]) ?_
                refine zcall_v (wc := [cM h b ((pm : Nat) : Int) ((n : Nat) : Int) ((k : Nat) : Int) ((d : Nat) : Int) ((rr : Nat) : Int) ((hd : Nat) : Int) ((sm : Nat) : Int) kr kq ku s0 s1 s2 s3 s4 ((((1103515245 * (sdN q2 i) + 12345) % 2147483648) : Nat) : Int) hs, cR cI (b 1) 6 g0, cR cI (b 2) 6 g1, cR cI (b 5) 12 r5, cR cI (b 6) 12 r6]) (wr := [cR cI (b 3) 12 g3]) (rest := []) hE hP hD hS hA [0, 1, 2, 4, 5] [3] [1, 2, 3, 0, 4, 5] rfl rfl (by decide) (by decide) (by decide) (fun (u : (Nat → Int) × (Nat → Int)) => [cM h b ((pm : Nat) : Int) ((n : Nat) : Int) ((k : Nat) : Int) ((d : Nat) : Int) ((rr : Nat) : Int) ((hd : Nat) : Int) ((sm : Nat) : Int) kr kq ku s0 s1 s2 s3 s4 ((((1103515245 * (sdN q2 i) + 12345) % 2147483648) : Nat) : Int) hs, cR cI (b 1) 6 g0, cR cI (b 2) 6 g1, cR cI (b 3) 12 g3, cR cI (b 5) 12 u.1, cR cI (b 6) 12 u.2]) (fun u => rfl) (fun hPc hDc => zrunV (As := [.int (zI (((sdN q2 (i + 1) / 65536 % k) : Nat) : Int))]) (rest := []) (q0 := 0) (ci := 4) K k_X4_doThen qm_X4_190 ⟨⟨rfl, rfl⟩, ⟨Nat.le_of_ble_eq_true rfl, Nat.le_of_ble_eq_true rfl⟩⟩ rfl rfl hPc hDc (c_X4_doThen l D cI h b pm n k d rr hd sm kr kq ku s0 s1 s2 s3 s4 ((((1103515245 * (sdN q2 i) + 12345) % 2147483648) : Nat) : Int) hs g0 g1 κ ν r5 r6 (pa (wq (mus n κ ν) k q2 i) n π) (sdN q2 (i + 1) / 65536 % k) (by first | assumption | omega) (by first | assumption | omega) (by first | assumption | omega) (by first | assumption | omega) (by first | assumption | omega) (by first | assumption | omega) (Nat.mod_lt _ (by omega)) hr5 _) rfl hl.1 rfl (Nat.le_of_ble_eq_true rfl) dX4_runs_75 ⟨Nat.zero_le _, Nat.zero_le _⟩) (by decide) (fun u H locs hpost hP hD hS => ?_)
                obtain ⟨o_1, o_2⟩ := u
                have ho5_75 := hpost
                have ho5_75 : ∀ j, j < n → o_1 j = ((pa (mus n κ ν (sdN q2 (i + 1) / 65536 % k)) n (pa (wq (mus n κ ν) k q2 i) n π) j : Nat) : Int) := ho5_75
                have hP : va_P D cls [cM h b ((pm : Nat) : Int) ((n : Nat) : Int) ((k : Nat) : Int) ((d : Nat) : Int) ((rr : Nat) : Int) ((hd : Nat) : Int) ((sm : Nat) : Int) kr kq ku s0 s1 s2 s3 s4 ((((1103515245 * (sdN q2 i) + 12345) % 2147483648) : Nat) : Int) hs, cR cI (b 1) 6 g0, cR cI (b 2) 6 g1, cR cI (b 3) 12 g3, cR cI (b 5) 12 o_1, cR cI (b 6) 12 o_2] H := hP
                have hD : va_D (va_A [cM h b ((pm : Nat) : Int) ((n : Nat) : Int) ((k : Nat) : Int) ((d : Nat) : Int) ((rr : Nat) : Int) ((hd : Nat) : Int) ((sm : Nat) : Int) kr kq ku s0 s1 s2 s3 s4 s5 hs, cR cI (b 1) 6 g0, cR cI (b 2) 6 g1, cR cI (b 3) 12 g3, cR cI (b 5) 12 q5, cR cI (b 6) 12 q6] sz) [cM h b ((pm : Nat) : Int) ((n : Nat) : Int) ((k : Nat) : Int) ((d : Nat) : Int) ((rr : Nat) : Int) ((hd : Nat) : Int) ((sm : Nat) : Int) kr kq ku s0 s1 s2 s3 s4 ((((1103515245 * (sdN q2 i) + 12345) % 2147483648) : Nat) : Int) hs, cR cI (b 1) 6 g0, cR cI (b 2) 6 g1, cR cI (b 3) 12 g3, cR cI (b 5) 12 o_1, cR cI (b 6) 12 o_2] := hD
                refine z_iinc (k := 4) (lv' := [(4, .int (zI (((i + 1) : Nat) : Int))), (0, .ref h), (1, .int (zI ((q1 : Nat) : Int))), (2, .int (zI ((q2 : Nat) : Int))), (3, .int (zI ((q3 : Nat) : Int)))]) hx hb (((i + 1) : Nat) : Int) (by omega) dX4_runs_78 hl rfl (by decide) rfl (fun ls hl => ?_)
                refine lv_goto (tgt := 60) hx hb dX4_runs_81 (by decide) ?_
                exact ih_60 (i + 1) o_1 o_2 (by omega) (by omega) (by intro j hj; rw [ho5_75 j hj, pa_comp (φ := wq (mus n κ ν) k q2 i) (ψ := mus n κ ν (sdN q2 (i + 1) / 65536 % k)) (wq_lt (by omega) hμ i) (wq_inj (by omega) hμ hμi i) (fun a ha => hμ _ a (Nat.mod_lt _ (by omega)) ha) (hμi _ (Nat.mod_lt _ (by omega))) j hj]; rfl) _ _ _ hP hD hS (lv_sub hl [1, 2, 3, 4, 0] rfl)
          exact cut_60 (q1 - 0 + 1) 0 (zcp g3 q5 12) q6 (Nat.lt_succ_self _) (by omega) (by intro j hj; rw [show pa (wq (mus n κ ν) k q2 0) n π j = π j from pa_0 (fun a _ => rfl) j hj]; exact (zcp_lt (by omega)).trans (hg3 j hj)) _ _ _ hP hD hS (lv_sub hl [1, 2, 3, 4, 0] rfl)
        · have b_35 := b01_ne c_35
          refine lv_bipush (v := zI (-103)) hx hb dX4_runs_38 (by decide) ?_
          rw [← hQf]
          exact z_iret K hS (s5, q5, q6) (by rw [hfr, if_pos (by omega)]) hP hD dX4_runs_40
      · have b_25 := b01_eq c_25
        refine lv_bipush (v := zI (-102)) hx hb dX4_runs_28 (by decide) ?_
        rw [← hQf]
        exact z_iret K hS (s5, q5, q6) (by rw [fRuns, if_neg (by omega)]) hP hD dX4_runs_30
set_option maxHeartbeats 4000000 in
set_option maxRecDepth 100000 in
theorem c_X4_countOf (l : Launch) (D : va_G) (cI : ClassId) (h : Nat) (b : Nat → Nat) (pm n k d rr hd sm : Nat) (kr kq ku s0 s1 s2 s3 s4 s5 hs : Int) (g0 g1 g3 gq : Nat → Int) (κ ν π ss sf st : Nat → Nat) (y1 : Int) (hT : MI n k d sm g0 g1 g3 gq κ ν π ss sf st) (hy1 : -2147483648 ≤ y1 ∧ y1 < 2147483648) (hpm : pm ≤ 22) (hrr : rr ≤ 5000) (hhd : hd ≤ 30) : zMi l yX4_countOf cX4_countOf 2 (some .int) ({ frames := 1, cells := 0, slots := 0, locals := 24 }) D cI [.ref h, .int (zI y1)] [cM h b ((pm : Nat) : Int) ((n : Nat) : Int) ((k : Nat) : Int) ((d : Nat) : Int) ((rr : Nat) : Int) ((hd : Nat) : Int) ((sm : Nat) : Int) kr kq ku s0 s1 s2 s3 s4 s5 hs, cR cI (b 3) 12 g3] (fun (z : Int) (u : Unit) => (z = (fCount n k d sm π pm rr hd y1)) ∧ (-2147483648 ≤ z ∧ z < 2147483648)) (fun (u : Unit) => [cM h b ((pm : Nat) : Int) ((n : Nat) : Int) ((k : Nat) : Int) ((d : Nat) : Int) ((rr : Nat) : Int) ((hd : Nat) : Int) ((sm : Nat) : Int) kr kq ku s0 s1 s2 s3 s4 s5 hs, cR cI (b 3) 12 g3]) := by
  intro sz
  refine zstart rfl (by decide) (Nat.le_of_ble_eq_true rfl) ?_
  intro p e s m below meth c ls K hnm hsz hP hD hS hl
  generalize hargs : ([.ref h, .int (zI y1)] : List Value).toArray = args at K ⊢
  generalize hQf : MQ below _ args s _ _ _ = Qf
  have K : zK p s m args meth c cX4_countOf 2 RX4 (some .int) D cI := K
  obtain ⟨hx, hb, hml, hown, hts, hE, -, -⟩ := id K
  have hA := zhA (ws0 := [cM h b ((pm : Nat) : Int) ((n : Nat) : Int) ((k : Nat) : Int) ((d : Nat) : Int) ((rr : Nat) : Int) ((hd : Nat) : Int) ((sm : Nat) : Int) kr kq ku s0 s1 s2 s3 s4 s5 hs, cR cI (b 3) 12 g3]) hsz
  have hl : lv_has ls 2 [(0, .ref h), (1, .int (zI y1))] := hl
  obtain ⟨hnk0, hd0, hv, hg0, hκ, hg1, hν, hg3, hπ, hπi, hq0, hss, hq1, hsf, hq2, hst⟩ := id hT
  have hn12 : n ≤ 12 := by omega
  have hk : k ≤ 6 := by omega
  have hct := fb_ct_le (fun j => decide (π j = j)) n
  have hsm2 := sm_ct_le (π := π) n hn12
  refine lv_iload_n hx hb dX4_countOf_0 rfl (lv_at hl 1 rfl) ?_
  rcases (show y1 = 0 ∨ y1 = 1 ∨ y1 = 2 ∨ y1 = 3 ∨ y1 = 4 ∨ y1 = 5 ∨ y1 = 6 ∨ y1 = 7 ∨ y1 = 8 ∨ (y1 ≠ 0 ∧ y1 ≠ 1 ∧ y1 ≠ 2 ∧ y1 ≠ 3 ∧ y1 ≠ 4 ∧ y1 ≠ 5 ∧ y1 ≠ 6 ∧ y1 ≠ 7 ∧ y1 ≠ 8) by omega) with c_1 | c_1 | c_1 | c_1 | c_1 | c_1 | c_1 | c_1 | c_1 | c_1
  · refine lv_tableIn (tgt := 52) hx hb dX4_countOf_1 (by rw [zI_toInt (by omega)]; omega) (by rw [zI_toInt (by omega)]; omega) (by rw [zI_toInt (by omega), c_1]; rfl) (by decide) ?_
    refine lv_aload_n hx hb dX4_countOf_52 rfl (lv_at hl 0 rfl) ?_
    refine va_get (D := D) (ci := 4) (v := .int (zI ((n : Nat) : Int))) (C := RX4) (T := TX4) (N := 32) hx hb hts inT_X4 hown hE.1 hP 0 rfl rfl 2 (by decide) (hts _ qf_X4_86) (fun _ h9 => h9) rfl dX4_countOf_53 ?_
    rw [← hQf]
    exact z_iret K hS () ⟨(by rw [c_1]; rfl), (by omega)⟩ hP hD dX4_countOf_56
  · refine lv_tableIn (tgt := 57) hx hb dX4_countOf_1 (by rw [zI_toInt (by omega)]; omega) (by rw [zI_toInt (by omega)]; omega) (by rw [zI_toInt (by omega), c_1]; rfl) (by decide) ?_
    refine lv_aload_n hx hb dX4_countOf_57 rfl (lv_at hl 0 rfl) ?_
    refine va_get (D := D) (ci := 4) (v := .int (zI ((k : Nat) : Int))) (C := RX4) (T := TX4) (N := 32) hx hb hts inT_X4 hown hE.1 hP 0 rfl rfl 3 (by decide) (hts _ qf_X4_89) (fun _ h9 => h9) rfl dX4_countOf_58 ?_
    rw [← hQf]
    exact z_iret K hS () ⟨(by rw [c_1]; rfl), (by omega)⟩ hP hD dX4_countOf_61
  · refine lv_tableIn (tgt := 62) hx hb dX4_countOf_1 (by rw [zI_toInt (by omega)]; omega) (by rw [zI_toInt (by omega)]; omega) (by rw [zI_toInt (by omega), c_1]; rfl) (by decide) ?_
    refine lv_aload_n hx hb dX4_countOf_62 rfl (lv_at hl 0 rfl) ?_
    refine lv_aload_n hx hb dX4_countOf_63 rfl (lv_at hl 0 rfl) ?_
    refine va_get (D := D) (ci := 4) (v := .ref (b 3)) (C := RX4) (T := TX4) (N := 32) hx hb hts inT_X4 hown hE.1 hP 0 rfl rfl 8 (by decide) (hts _ qf_X4_19) (fun _ h9 => h9) rfl dX4_countOf_64 ?_
    refine zcall_i (wc := [cM h b ((pm : Nat) : Int) ((n : Nat) : Int) ((k : Nat) : Int) ((d : Nat) : Int) ((rr : Nat) : Int) ((hd : Nat) : Int) ((sm : Nat) : Int) kr kq ku s0 s1 s2 s3 s4 s5 hs, cR cI (b 3) 12 g3]) (wr := []) (rest := []) hE hP hD hS hA [0, 1] [] [0, 1] rfl rfl (by decide) (by decide) (by decide) (fun (u : Unit) => [cM h b ((pm : Nat) : Int) ((n : Nat) : Int) ((k : Nat) : Int) ((d : Nat) : Int) ((rr : Nat) : Int) ((hd : Nat) : Int) ((sm : Nat) : Int) kr kq ku s0 s1 s2 s3 s4 s5 hs, cR cI (b 3) 12 g3]) (fun u => rfl) (fun hPc hDc => zrunV (As := [.ref (b 3)]) (rest := []) (q0 := 0) (ci := 4) K k_X4_homely qm_X4_194 ⟨⟨rfl, rfl⟩, ⟨Nat.le_of_ble_eq_true rfl, Nat.le_of_ble_eq_true rfl⟩⟩ rfl rfl hPc hDc (c_X4_homely l D cI h b pm n k d rr hd sm kr kq ku s0 s1 s2 s3 s4 s5 hs (b 3) g3 π (by first | assumption | omega) (by first | assumption | omega) (by first | assumption | omega) _) rfl hl.1 rfl (Nat.le_of_ble_eq_true rfl) dX4_countOf_67 ⟨Nat.zero_le _, Nat.zero_le _⟩) (by decide) (fun z u H locs hpost hP hD hS => ?_)
    subst hpost
    have hP : va_P D cls [cM h b ((pm : Nat) : Int) ((n : Nat) : Int) ((k : Nat) : Int) ((d : Nat) : Int) ((rr : Nat) : Int) ((hd : Nat) : Int) ((sm : Nat) : Int) kr kq ku s0 s1 s2 s3 s4 s5 hs, cR cI (b 3) 12 g3] H := hP
    have hD : va_D (va_A [cM h b ((pm : Nat) : Int) ((n : Nat) : Int) ((k : Nat) : Int) ((d : Nat) : Int) ((rr : Nat) : Int) ((hd : Nat) : Int) ((sm : Nat) : Int) kr kq ku s0 s1 s2 s3 s4 s5 hs, cR cI (b 3) 12 g3] sz) [cM h b ((pm : Nat) : Int) ((n : Nat) : Int) ((k : Nat) : Int) ((d : Nat) : Int) ((rr : Nat) : Int) ((hd : Nat) : Int) ((sm : Nat) : Int) kr kq ku s0 s1 s2 s3 s4 s5 hs, cR cI (b 3) 12 g3] := hD
    refine W.eq (g2 := F0 m 70 ls [.int (zI (((fb_ct (fun j => decide (π j = j)) n) : Nat) : Int))]) rfl ?_
    rw [← hQf]
    exact z_iret K hS () ⟨(by rw [c_1]; rfl), (by omega)⟩ hP hD dX4_countOf_70
  · refine lv_tableIn (tgt := 71) hx hb dX4_countOf_1 (by rw [zI_toInt (by omega)]; omega) (by rw [zI_toInt (by omega)]; omega) (by rw [zI_toInt (by omega), c_1]; rfl) (by decide) ?_
    refine lv_aload_n hx hb dX4_countOf_71 rfl (lv_at hl 0 rfl) ?_
    refine zcall_i (wc := [cM h b ((pm : Nat) : Int) ((n : Nat) : Int) ((k : Nat) : Int) ((d : Nat) : Int) ((rr : Nat) : Int) ((hd : Nat) : Int) ((sm : Nat) : Int) kr kq ku s0 s1 s2 s3 s4 s5 hs, cR cI (b 3) 12 g3]) (wr := []) (rest := []) hE hP hD hS hA [0, 1] [] [0, 1] rfl rfl (by decide) (by decide) (by decide) (fun (u : Unit) => [cM h b ((pm : Nat) : Int) ((n : Nat) : Int) ((k : Nat) : Int) ((d : Nat) : Int) ((rr : Nat) : Int) ((hd : Nat) : Int) ((sm : Nat) : Int) kr kq ku s0 s1 s2 s3 s4 s5 hs, cR cI (b 3) 12 g3]) (fun u => rfl) (fun hPc hDc => zrunV (As := []) (rest := []) (q0 := 0) (ci := 4) K k_X4_crossed qm_X4_254 ⟨⟨rfl, rfl⟩, ⟨Nat.le_of_ble_eq_true rfl, Nat.le_of_ble_eq_true rfl⟩⟩ rfl rfl hPc hDc (c_X4_crossed l D cI h b pm n k d rr hd sm kr kq ku s0 s1 s2 s3 s4 s5 hs g3 π (by first | assumption | omega) (by first | assumption | omega) (by first | assumption | omega) (by first | assumption | omega) _) rfl hl.1 rfl (Nat.le_of_ble_eq_true rfl) dX4_countOf_72 ⟨Nat.zero_le _, Nat.zero_le _⟩) (by decide) (fun z u H locs hpost hP hD hS => ?_)
    subst hpost
    have hP : va_P D cls [cM h b ((pm : Nat) : Int) ((n : Nat) : Int) ((k : Nat) : Int) ((d : Nat) : Int) ((rr : Nat) : Int) ((hd : Nat) : Int) ((sm : Nat) : Int) kr kq ku s0 s1 s2 s3 s4 s5 hs, cR cI (b 3) 12 g3] H := hP
    have hD : va_D (va_A [cM h b ((pm : Nat) : Int) ((n : Nat) : Int) ((k : Nat) : Int) ((d : Nat) : Int) ((rr : Nat) : Int) ((hd : Nat) : Int) ((sm : Nat) : Int) kr kq ku s0 s1 s2 s3 s4 s5 hs, cR cI (b 3) 12 g3] sz) [cM h b ((pm : Nat) : Int) ((n : Nat) : Int) ((k : Nat) : Int) ((d : Nat) : Int) ((rr : Nat) : Int) ((hd : Nat) : Int) ((sm : Nat) : Int) kr kq ku s0 s1 s2 s3 s4 s5 hs, cR cI (b 3) 12 g3] := hD
    refine W.eq (g2 := F0 m 75 ls [.int (zI (((fb_sm (fun b => fb_ct (fun a => decide (π b < π a)) b) n) : Nat) : Int))]) rfl ?_
    rw [← hQf]
    exact z_iret K hS () ⟨(by rw [c_1]; rfl), (by omega)⟩ hP hD dX4_countOf_75
  · refine lv_tableIn (tgt := 76) hx hb dX4_countOf_1 (by rw [zI_toInt (by omega)]; omega) (by rw [zI_toInt (by omega)]; omega) (by rw [zI_toInt (by omega), c_1]; rfl) (by decide) ?_
    refine lv_aload_n hx hb dX4_countOf_76 rfl (lv_at hl 0 rfl) ?_
    refine va_get (D := D) (ci := 4) (v := .int (zI ((d : Nat) : Int))) (C := RX4) (T := TX4) (N := 32) hx hb hts inT_X4 hown hE.1 hP 0 rfl rfl 4 (by decide) (hts _ qf_X4_95) (fun _ h9 => h9) rfl dX4_countOf_77 ?_
    rw [← hQf]
    exact z_iret K hS () ⟨(by rw [c_1]; rfl), (by omega)⟩ hP hD dX4_countOf_80
  · refine lv_tableIn (tgt := 81) hx hb dX4_countOf_1 (by rw [zI_toInt (by omega)]; omega) (by rw [zI_toInt (by omega)]; omega) (by rw [zI_toInt (by omega), c_1]; rfl) (by decide) ?_
    refine lv_aload_n hx hb dX4_countOf_81 rfl (lv_at hl 0 rfl) ?_
    refine va_get (D := D) (ci := 4) (v := .int (zI ((sm : Nat) : Int))) (C := RX4) (T := TX4) (N := 32) hx hb hts inT_X4 hown hE.1 hP 0 rfl rfl 21 (by decide) (hts _ qf_X4_98) (fun _ h9 => h9) rfl dX4_countOf_82 ?_
    rw [← hQf]
    exact z_iret K hS () ⟨(by rw [c_1]; rfl), (by omega)⟩ hP hD dX4_countOf_85
  · refine lv_tableIn (tgt := 86) hx hb dX4_countOf_1 (by rw [zI_toInt (by omega)]; omega) (by rw [zI_toInt (by omega)]; omega) (by rw [zI_toInt (by omega), c_1]; rfl) (by decide) ?_
    refine lv_aload_n hx hb dX4_countOf_86 rfl (lv_at hl 0 rfl) ?_
    refine va_get (D := D) (ci := 4) (v := .int (zI ((pm : Nat) : Int))) (C := RX4) (T := TX4) (N := 32) hx hb hts inT_X4 hown hE.1 hP 0 rfl rfl 1 (by decide) (hts _ qf_X4_65) (fun _ h9 => h9) rfl dX4_countOf_87 ?_
    rw [← hQf]
    exact z_iret K hS () ⟨(by rw [c_1]; rfl), (by omega)⟩ hP hD dX4_countOf_90
  · refine lv_tableIn (tgt := 91) hx hb dX4_countOf_1 (by rw [zI_toInt (by omega)]; omega) (by rw [zI_toInt (by omega)]; omega) (by rw [zI_toInt (by omega), c_1]; rfl) (by decide) ?_
    refine lv_aload_n hx hb dX4_countOf_91 rfl (lv_at hl 0 rfl) ?_
    refine va_get (D := D) (ci := 4) (v := .int (zI ((rr : Nat) : Int))) (C := RX4) (T := TX4) (N := 32) hx hb hts inT_X4 hown hE.1 hP 0 rfl rfl 5 (by decide) (hts _ qf_X4_101) (fun _ h9 => h9) rfl dX4_countOf_92 ?_
    rw [← hQf]
    exact z_iret K hS () ⟨(by rw [c_1]; rfl), (by omega)⟩ hP hD dX4_countOf_95
  · refine lv_tableIn (tgt := 96) hx hb dX4_countOf_1 (by rw [zI_toInt (by omega)]; omega) (by rw [zI_toInt (by omega)]; omega) (by rw [zI_toInt (by omega), c_1]; rfl) (by decide) ?_
    refine lv_aload_n hx hb dX4_countOf_96 rfl (lv_at hl 0 rfl) ?_
    refine va_get (D := D) (ci := 4) (v := .int (zI ((hd : Nat) : Int))) (C := RX4) (T := TX4) (N := 32) hx hb hts inT_X4 hown hE.1 hP 0 rfl rfl 17 (by decide) (hts _ qf_X4_219) (fun _ h9 => h9) rfl dX4_countOf_97 ?_
    rw [← hQf]
    exact z_iret K hS () ⟨(by rw [c_1]; rfl), (by omega)⟩ hP hD dX4_countOf_100
  · refine lv_tableOut (tgt := 101) hx hb dX4_countOf_1 (by rw [zI_toInt (by omega)]; omega) (by decide) ?_
    refine lv_bipush (v := zI (-102)) hx hb dX4_countOf_101 (by decide) ?_
    rw [← hQf]
    exact z_iret K hS () ⟨(by simp only [fCount]; rw [if_neg (by omega), if_neg (by omega), if_neg (by omega), if_neg (by omega), if_neg (by omega), if_neg (by omega), if_neg (by omega), if_neg (by omega), if_neg (by omega)]), (by omega)⟩ hP hD dX4_countOf_103
set_option maxHeartbeats 4000000 in
set_option maxRecDepth 100000 in
theorem c_X4_count (l : Launch) (D : va_G) (cI : ClassId) (h : Nat) (b : Nat → Nat) (pm n k d rr hd sm : Nat) (kr kq ku s0 s1 s2 s3 s4 s5 hs : Int) (g0 g1 g3 gq : Nat → Int) (κ ν π ss sf st : Nat → Nat) (y1 : Int) (hT : MI n k d sm g0 g1 g3 gq κ ν π ss sf st) (hy1 : -2147483648 ≤ y1 ∧ y1 < 2147483648) (hpm : pm ≤ 22) (hrr : rr ≤ 5000) (hhd : hd ≤ 30) : zMi l yX4_count cX4_count 2 (some .int) ({ frames := 2, cells := 0, slots := 0, locals := 45 }) D cI [.ref h, .int (zI y1)] [cM h b ((pm : Nat) : Int) ((n : Nat) : Int) ((k : Nat) : Int) ((d : Nat) : Int) ((rr : Nat) : Int) ((hd : Nat) : Int) ((sm : Nat) : Int) kr kq ku s0 s1 s2 s3 s4 s5 hs, cR cI (b 3) 12 g3] (fun (z : Int) (u : Unit) => z = (fCount n k d sm π pm rr hd y1)) (fun (u : Unit) => [cM h b ((pm : Nat) : Int) ((n : Nat) : Int) ((k : Nat) : Int) ((d : Nat) : Int) ((rr : Nat) : Int) ((hd : Nat) : Int) ((sm : Nat) : Int) kr kq ku s0 s1 s2 s3 s4 s5 hs, cR cI (b 3) 12 g3]) := by
  intro sz
  refine zstart rfl (by decide) (Nat.le_of_ble_eq_true rfl) ?_
  intro p e s m below meth c ls K hnm hsz hP hD hS hl
  generalize hargs : ([.ref h, .int (zI y1)] : List Value).toArray = args at K ⊢
  generalize hQf : MQ below _ args s _ _ _ = Qf
  have K : zK p s m args meth c cX4_count 2 RX4 (some .int) D cI := K
  obtain ⟨hx, hb, hml, hown, hts, hE, -, -⟩ := id K
  have hA := zhA (ws0 := [cM h b ((pm : Nat) : Int) ((n : Nat) : Int) ((k : Nat) : Int) ((d : Nat) : Int) ((rr : Nat) : Int) ((hd : Nat) : Int) ((sm : Nat) : Int) kr kq ku s0 s1 s2 s3 s4 s5 hs, cR cI (b 3) 12 g3]) hsz
  have hl : lv_has ls 2 [(0, .ref h), (1, .int (zI y1))] := hl
  obtain ⟨hnk0, hd0, hv, hg0, hκ, hg1, hν, hg3, hπ, hπi, hq0, hss, hq1, hsf, hq2, hst⟩ := id hT
  have hn12 : n ≤ 12 := by omega
  have hk : k ≤ 6 := by omega
  refine lv_aload_n hx hb dX4_count_0 rfl (lv_at hl 0 rfl) ?_
  refine lv_iload_n hx hb dX4_count_1 rfl (lv_at hl 1 rfl) ?_
  refine zcall_i (wc := [cM h b ((pm : Nat) : Int) ((n : Nat) : Int) ((k : Nat) : Int) ((d : Nat) : Int) ((rr : Nat) : Int) ((hd : Nat) : Int) ((sm : Nat) : Int) kr kq ku s0 s1 s2 s3 s4 s5 hs, cR cI (b 3) 12 g3]) (wr := []) (rest := []) hE hP hD hS hA [0, 1] [] [0, 1] rfl rfl (by decide) (by decide) (by decide) (fun (u : Unit) => [cM h b ((pm : Nat) : Int) ((n : Nat) : Int) ((k : Nat) : Int) ((d : Nat) : Int) ((rr : Nat) : Int) ((hd : Nat) : Int) ((sm : Nat) : Int) kr kq ku s0 s1 s2 s3 s4 s5 hs, cR cI (b 3) 12 g3]) (fun u => rfl) (fun hPc hDc => zrunV (As := [.int (zI y1)]) (rest := []) (q0 := 0) (ci := 4) K k_X4_countOf qm_X4_257 ⟨⟨rfl, rfl⟩, ⟨Nat.le_of_ble_eq_true rfl, Nat.le_of_ble_eq_true rfl⟩⟩ rfl rfl hPc hDc (c_X4_countOf l D cI h b pm n k d rr hd sm kr kq ku s0 s1 s2 s3 s4 s5 hs g0 g1 g3 gq κ ν π ss sf st y1 (by first | assumption | omega) (by first | assumption | omega) (by first | assumption | omega) (by first | assumption | omega) (by first | assumption | omega) _) rfl hl.1 rfl (Nat.le_of_ble_eq_true rfl) dX4_count_2 ⟨Nat.zero_le _, Nat.zero_le _⟩) (by decide) (fun z u H locs hpost hP hD hS => ?_)
  obtain ⟨rfl, hzr_2⟩ := hpost
  have hzr_2 : -2147483648 ≤ (fCount n k d sm π pm rr hd y1) ∧ (fCount n k d sm π pm rr hd y1) < 2147483648 := hzr_2
  have hP : va_P D cls [cM h b ((pm : Nat) : Int) ((n : Nat) : Int) ((k : Nat) : Int) ((d : Nat) : Int) ((rr : Nat) : Int) ((hd : Nat) : Int) ((sm : Nat) : Int) kr kq ku s0 s1 s2 s3 s4 s5 hs, cR cI (b 3) 12 g3] H := hP
  have hD : va_D (va_A [cM h b ((pm : Nat) : Int) ((n : Nat) : Int) ((k : Nat) : Int) ((d : Nat) : Int) ((rr : Nat) : Int) ((hd : Nat) : Int) ((sm : Nat) : Int) kr kq ku s0 s1 s2 s3 s4 s5 hs, cR cI (b 3) 12 g3] sz) [cM h b ((pm : Nat) : Int) ((n : Nat) : Int) ((k : Nat) : Int) ((d : Nat) : Int) ((rr : Nat) : Int) ((hd : Nat) : Int) ((sm : Nat) : Int) kr kq ku s0 s1 s2 s3 s4 s5 hs, cR cI (b 3) 12 g3] := hD
  refine W.eq (g2 := F0 m 5 ls [.int (zI (fCount n k d sm π pm rr hd y1))]) rfl ?_
  rw [← hQf]
  exact z_iret K hS () (by rfl) hP hD dX4_count_5
