set_option maxHeartbeats 4000000 in
set_option maxRecDepth 100000 in
theorem c_X4_layRings (l : Launch) (D : va_G) (cI : ClassId) (h : Nat) (b : Nat → Nat) (pm n k d rr hd sm : Nat) (kr kq ku s0 s1 s2 s3 s4 s5 hs : Int) (f : Nat → Int) (φ : Nat → Nat) (hn : 2 ≤ n ∧ n ≤ 12) (hf : ∀ j, j < n → f j = ((φ j : Nat) : Int)) (hφ : ∀ j, j < n → φ j < n) (hinj : inj φ n) : zMv l yX4_layRings cX4_layRings 4 none ({ frames := 1, cells := 0, slots := 0, locals := 24 }) D cI [.ref h] [cM h b ((pm : Nat) : Int) ((n : Nat) : Int) ((k : Nat) : Int) ((d : Nat) : Int) ((rr : Nat) : Int) ((hd : Nat) : Int) ((sm : Nat) : Int) kr kq ku s0 s1 s2 s3 s4 s5 hs, cR cI (b 4) 12 f] (fun (u : (Int) × (Int) × (Int) × (Int)) => (u.1 = ((fb_ct (fun j => lrB (φ) n j) n : Nat) : Int)) ∧ (u.2.1 = ((mx (rl (φ) n) n : Nat) : Int)) ∧ (u.2.2.1 = ((fb_ct (fun j => decide ((φ) j = j)) n : Nat) : Int)) ∧ (u.2.2.2 = ((odN (φ) n n : Nat) : Int))) (fun (u : (Int) × (Int) × (Int) × (Int)) => [cM h b ((pm : Nat) : Int) ((n : Nat) : Int) ((k : Nat) : Int) ((d : Nat) : Int) ((rr : Nat) : Int) ((hd : Nat) : Int) ((sm : Nat) : Int) kr kq ku u.1 u.2.1 u.2.2.1 u.2.2.2 s4 s5 hs, cR cI (b 4) 12 f]) := by
  intro sz
  refine zstart rfl (by decide) (Nat.le_of_ble_eq_true rfl) ?_
  intro p e s m below meth c ls K hnm hsz hP hD hS hl
  generalize hargs : ([.ref h] : List Value).toArray = args at K ⊢
  generalize hQf : MQ below _ args s _ _ _ = Qf
  have K : zK p s m args meth c cX4_layRings 4 RX4 none D cI := K
  obtain ⟨hx, hb, hml, hown, hts, hE, -, -⟩ := id K
  have hA := zhA (ws0 := [cM h b ((pm : Nat) : Int) ((n : Nat) : Int) ((k : Nat) : Int) ((d : Nat) : Int) ((rr : Nat) : Int) ((hd : Nat) : Int) ((sm : Nat) : Int) kr kq ku s0 s1 s2 s3 s4 s5 hs, cR cI (b 4) 12 f]) hsz
  have hl : lv_has ls 4 [(0, .ref h)] := hl
  refine lv_aload_n hx hb dX4_layRings_0 rfl (lv_at hl 0 rfl) ?_
  refine lv_iconst (v := zI 0) hx hb dX4_layRings_1 rfl ?_
  refine va_put (D := D) (ci := 4) (v := .int (zI 0)) (ty := .int) (C := RX4) (T := TX4) (N := 32) hx hb hts inT_X4 tyX4 tyX4_ok nmX4 hown hE.1 hP hD hS 0 rfl rfl 11 (by decide) (hts _ qf_X4_134) (fun _ h9 => h9) rfl (by decide +kernel) rfl rfl (Nat.le_of_ble_eq_true rfl) dX4_layRings_2 (fun H locs hP hD hS => ?_)
  have hP : va_P D cls [cM h b ((pm : Nat) : Int) ((n : Nat) : Int) ((k : Nat) : Int) ((d : Nat) : Int) ((rr : Nat) : Int) ((hd : Nat) : Int) ((sm : Nat) : Int) kr kq ku s0 0 s2 s3 s4 s5 hs, cR cI (b 4) 12 f] H := hP
  have hD : va_D (va_A [cM h b ((pm : Nat) : Int) ((n : Nat) : Int) ((k : Nat) : Int) ((d : Nat) : Int) ((rr : Nat) : Int) ((hd : Nat) : Int) ((sm : Nat) : Int) kr kq ku s0 s1 s2 s3 s4 s5 hs, cR cI (b 4) 12 f] sz) [cM h b ((pm : Nat) : Int) ((n : Nat) : Int) ((k : Nat) : Int) ((d : Nat) : Int) ((rr : Nat) : Int) ((hd : Nat) : Int) ((sm : Nat) : Int) kr kq ku s0 0 s2 s3 s4 s5 hs, cR cI (b 4) 12 f] := hD
  refine lv_aload_n hx hb dX4_layRings_5 rfl (lv_at hl 0 rfl) ?_
  refine lv_iconst (v := zI 0) hx hb dX4_layRings_6 rfl ?_
  refine va_put (D := D) (ci := 4) (v := .int (zI 0)) (ty := .int) (C := RX4) (T := TX4) (N := 32) hx hb hts inT_X4 tyX4 tyX4_ok nmX4 hown hE.1 hP hD hS 0 rfl rfl 12 (by decide) (hts _ qf_X4_137) (fun _ h9 => h9) rfl (by decide +kernel) rfl rfl (Nat.le_of_ble_eq_true rfl) dX4_layRings_7 (fun H locs hP hD hS => ?_)
  have hP : va_P D cls [cM h b ((pm : Nat) : Int) ((n : Nat) : Int) ((k : Nat) : Int) ((d : Nat) : Int) ((rr : Nat) : Int) ((hd : Nat) : Int) ((sm : Nat) : Int) kr kq ku s0 0 0 s3 s4 s5 hs, cR cI (b 4) 12 f] H := hP
  have hD : va_D (va_A [cM h b ((pm : Nat) : Int) ((n : Nat) : Int) ((k : Nat) : Int) ((d : Nat) : Int) ((rr : Nat) : Int) ((hd : Nat) : Int) ((sm : Nat) : Int) kr kq ku s0 s1 s2 s3 s4 s5 hs, cR cI (b 4) 12 f] sz) [cM h b ((pm : Nat) : Int) ((n : Nat) : Int) ((k : Nat) : Int) ((d : Nat) : Int) ((rr : Nat) : Int) ((hd : Nat) : Int) ((sm : Nat) : Int) kr kq ku s0 0 0 s3 s4 s5 hs, cR cI (b 4) 12 f] := hD
  refine lv_aload_n hx hb dX4_layRings_10 rfl (lv_at hl 0 rfl) ?_
  refine lv_iconst (v := zI 1) hx hb dX4_layRings_11 rfl ?_
  refine va_put (D := D) (ci := 4) (v := .int (zI 1)) (ty := .int) (C := RX4) (T := TX4) (N := 32) hx hb hts inT_X4 tyX4 tyX4_ok nmX4 hown hE.1 hP hD hS 0 rfl rfl 13 (by decide) (hts _ qf_X4_140) (fun _ h9 => h9) rfl (by decide +kernel) rfl rfl (Nat.le_of_ble_eq_true rfl) dX4_layRings_12 (fun H locs hP hD hS => ?_)
  have hP : va_P D cls [cM h b ((pm : Nat) : Int) ((n : Nat) : Int) ((k : Nat) : Int) ((d : Nat) : Int) ((rr : Nat) : Int) ((hd : Nat) : Int) ((sm : Nat) : Int) kr kq ku s0 0 0 1 s4 s5 hs, cR cI (b 4) 12 f] H := hP
  have hD : va_D (va_A [cM h b ((pm : Nat) : Int) ((n : Nat) : Int) ((k : Nat) : Int) ((d : Nat) : Int) ((rr : Nat) : Int) ((hd : Nat) : Int) ((sm : Nat) : Int) kr kq ku s0 s1 s2 s3 s4 s5 hs, cR cI (b 4) 12 f] sz) [cM h b ((pm : Nat) : Int) ((n : Nat) : Int) ((k : Nat) : Int) ((d : Nat) : Int) ((rr : Nat) : Int) ((hd : Nat) : Int) ((sm : Nat) : Int) kr kq ku s0 0 0 1 s4 s5 hs, cR cI (b 4) 12 f] := hD
  refine lv_iconst (v := zI 0) hx hb dX4_layRings_15 rfl ?_
  refine lv_istore_n (lv' := [(1, .int (zI 0)), (0, .ref h)]) hx hb dX4_layRings_16 rfl hl (by decide) rfl (fun ls hl => ?_)
  refine lv_iconst (v := zI 0) hx hb dX4_layRings_17 rfl ?_
  refine lv_istore_n (lv' := [(2, .int (zI 0)), (1, .int (zI 0)), (0, .ref h)]) hx hb dX4_layRings_18 rfl hl (by decide) rfl (fun ls hl => ?_)
  have cut_19 : ∀ (N_19 : Nat), ∀ (i w y1 y2 y3 : Nat), n - i < N_19 → (i ≤ n) → (w = fb_sm (fun p => 27720 / rl φ n p) i) → (w ≤ 27720 * i) → (y1 = mx (rl φ n) i) → (y1 ≤ 12) → (y2 = fb_ct (fun j => decide (φ j = j)) i) → (y3 = odN φ n i) → ∀ (H : Heap) (locs : List Loc) (ls : Array Slot), va_P D cls [cM h b ((pm : Nat) : Int) ((n : Nat) : Int) ((k : Nat) : Int) ((d : Nat) : Int) ((rr : Nat) : Int) ((hd : Nat) : Int) ((sm : Nat) : Int) kr kq ku s0 ((y1 : Nat) : Int) ((y2 : Nat) : Int) ((y3 : Nat) : Int) s4 s5 hs, cR cI (b 4) 12 f] H → va_D (va_A [cM h b ((pm : Nat) : Int) ((n : Nat) : Int) ((k : Nat) : Int) ((d : Nat) : Int) ((rr : Nat) : Int) ((hd : Nat) : Int) ((sm : Nat) : Int) kr kq ku s0 s1 s2 s3 s4 s5 hs, cR cI (b 4) 12 f] sz) [cM h b ((pm : Nat) : Int) ((n : Nat) : Int) ((k : Nat) : Int) ((d : Nat) : Int) ((rr : Nat) : Int) ((hd : Nat) : Int) ((sm : Nat) : Int) kr kq ku s0 ((y1 : Nat) : Int) ((y2 : Nat) : Int) ((y3 : Nat) : Int) s4 s5 hs, cR cI (b 4) 12 f] → va_S (va_A [cM h b ((pm : Nat) : Int) ((n : Nat) : Int) ((k : Nat) : Int) ((d : Nat) : Int) ((rr : Nat) : Int) ((hd : Nat) : Int) ((sm : Nat) : Int) kr kq ku s0 s1 s2 s3 s4 s5 hs, cR cI (b 4) 12 f] sz) s.heap H locs → lv_has ls 4 [(0, .ref h), (1, .int (zI ((w : Nat) : Int))), (2, .int (zI ((i : Nat) : Int)))] → W p l e ({ frames := 1, cells := 0, slots := 0, locals := 24 }) s m args below meth c H locs 0 0 Qf (F0 m 19 ls []) := by
    intro N_19
    induction N_19 with
    | zero => intro i w y1 y2 y3 hm_19; exact absurd hm_19 (Nat.not_lt_zero _)
    | succ N_19 ih_19 =>
      intro i w y1 y2 y3 hm_19 hi hw hw2 hy1 hy1c hy2 hy3 H locs ls hP hD hS hl
      refine lv_iload_n hx hb dX4_layRings_19 rfl (lv_at hl 2 rfl) ?_
      refine lv_aload_n hx hb dX4_layRings_20 rfl (lv_at hl 0 rfl) ?_
      refine va_get (D := D) (ci := 4) (v := .int (zI ((n : Nat) : Int))) (C := RX4) (T := TX4) (N := 32) hx hb hts inT_X4 hown hE.1 hP 0 rfl rfl 2 (by decide) (hts _ qf_X4_86) (fun _ h9 => h9) rfl dX4_layRings_21 ?_
      refine z_icmp_ge (tgt := 105) hx hb (by omega) dX4_layRings_24 (by decide) (fun c_24 => ?_) (fun c_24 => ?_)
      · have hin : i = n := by omega
        have hrs := rings_sum hn.2 (show 0 < n by omega) hφ hinj
        have hfc := fb_ct_le (fun j => lrB φ n j) n
        have hrs2 : w = 27720 * fb_ct (fun j => lrB φ n j) n := by rw [hw, hin]; exact hrs
        refine lv_aload_n hx hb dX4_layRings_105 rfl (lv_at hl 0 rfl) ?_
        refine lv_iload_n hx hb dX4_layRings_106 rfl (lv_at hl 1 rfl) ?_
        refine lv_sipush (v := zI 27720) hx hb dX4_layRings_107 (by decide) ?_
        refine z_idiv hx hb (((fb_ct (fun j => lrB φ n j) n) : Nat) : Int) (by omega) (by omega) dX4_layRings_110 ?_
        refine va_put (D := D) (ci := 4) (v := .int (zI (((fb_ct (fun j => lrB φ n j) n) : Nat) : Int))) (ty := .int) (C := RX4) (T := TX4) (N := 32) hx hb hts inT_X4 tyX4 tyX4_ok nmX4 hown hE.1 hP hD hS 0 rfl rfl 10 (by decide) (hts _ qf_X4_149) (fun _ h9 => h9) rfl (by decide +kernel) rfl rfl (Nat.le_of_ble_eq_true rfl) dX4_layRings_111 (fun H locs hP hD hS => ?_)
        have hP : va_P D cls [cM h b ((pm : Nat) : Int) ((n : Nat) : Int) ((k : Nat) : Int) ((d : Nat) : Int) ((rr : Nat) : Int) ((hd : Nat) : Int) ((sm : Nat) : Int) kr kq ku (((fb_ct (fun j => lrB φ n j) n) : Nat) : Int) ((y1 : Nat) : Int) ((y2 : Nat) : Int) ((y3 : Nat) : Int) s4 s5 hs, cR cI (b 4) 12 f] H := hP
        have hD : va_D (va_A [cM h b ((pm : Nat) : Int) ((n : Nat) : Int) ((k : Nat) : Int) ((d : Nat) : Int) ((rr : Nat) : Int) ((hd : Nat) : Int) ((sm : Nat) : Int) kr kq ku s0 s1 s2 s3 s4 s5 hs, cR cI (b 4) 12 f] sz) [cM h b ((pm : Nat) : Int) ((n : Nat) : Int) ((k : Nat) : Int) ((d : Nat) : Int) ((rr : Nat) : Int) ((hd : Nat) : Int) ((sm : Nat) : Int) kr kq ku (((fb_ct (fun j => lrB φ n j) n) : Nat) : Int) ((y1 : Nat) : Int) ((y2 : Nat) : Int) ((y3 : Nat) : Int) s4 s5 hs, cR cI (b 4) 12 f] := hD
        rw [← hQf]
        exact z_vret K hS ((((fb_ct (fun j => lrB φ n j) n) : Nat) : Int), ((y1 : Nat) : Int), ((y2 : Nat) : Int), ((y3 : Nat) : Int)) ⟨(by (try dsimp only); first | done | rfl), (by (try dsimp only); rw [hy1, hin]), (by (try dsimp only); rw [hy2, hin]), (by (try dsimp only); rw [hy3, hin])⟩ hP hD dX4_layRings_114
      · refine lv_aload_n hx hb dX4_layRings_27 rfl (lv_at hl 0 rfl) ?_
        refine lv_iload_n hx hb dX4_layRings_28 rfl (lv_at hl 2 rfl) ?_
        have hr1 := rl_pos φ n i
        have hr2 := rl_le (φ := φ) (n := n) (p := i) (by omega)
        have ho := od_le (φ := φ) (n := n) (i := i) hn.2 hi
        rw [← hy3] at ho
        have hgp : 0 < Nat.gcd y3 (rl φ n i) := Nat.gcd_pos_of_pos_left _ (by omega)
        have hgl : Nat.gcd y3 (rl φ n i) ≤ y3 := Nat.gcd_le_left _ (by omega)
        have hone := rl_one (φ := φ) (n := n) (p := i) (by omega) hn.1
        have hdiv := Nat.div_le_self 27720 (rl φ n i)
        refine zcall_i (wc := [cM h b ((pm : Nat) : Int) ((n : Nat) : Int) ((k : Nat) : Int) ((d : Nat) : Int) ((rr : Nat) : Int) ((hd : Nat) : Int) ((sm : Nat) : Int) kr kq ku s0 ((y1 : Nat) : Int) ((y2 : Nat) : Int) ((y3 : Nat) : Int) s4 s5 hs, cR cI (b 4) 12 f]) (wr := []) (rest := []) hE hP hD hS hA [0, 1] [] [0, 1] rfl rfl (by decide) (by decide) (by decide) (fun (u : Unit) => [cM h b ((pm : Nat) : Int) ((n : Nat) : Int) ((k : Nat) : Int) ((d : Nat) : Int) ((rr : Nat) : Int) ((hd : Nat) : Int) ((sm : Nat) : Int) kr kq ku s0 ((y1 : Nat) : Int) ((y2 : Nat) : Int) ((y3 : Nat) : Int) s4 s5 hs, cR cI (b 4) 12 f]) (fun u => rfl) (fun hPc hDc => zrunV (As := [.int (zI ((i : Nat) : Int))]) (rest := []) (q0 := 0) (ci := 4) K k_X4_ringOf qm_X4_143 ⟨⟨rfl, rfl⟩, ⟨Nat.le_of_ble_eq_true rfl, Nat.le_of_ble_eq_true rfl⟩⟩ rfl rfl hPc hDc (c_X4_ringOf l D cI h b pm n k d rr hd sm kr kq ku s0 ((y1 : Nat) : Int) ((y2 : Nat) : Int) ((y3 : Nat) : Int) s4 s5 hs f φ i (by first | assumption | omega) (by first | assumption | omega) (by first | assumption | omega) (by first | assumption | omega) (by first | assumption | omega) _) rfl hl.1 rfl (Nat.le_of_ble_eq_true rfl) dX4_layRings_29 ⟨Nat.zero_le _, Nat.zero_le _⟩) (by decide) (fun z u H locs hpost hP hD hS => ?_)
        subst hpost
        have hP : va_P D cls [cM h b ((pm : Nat) : Int) ((n : Nat) : Int) ((k : Nat) : Int) ((d : Nat) : Int) ((rr : Nat) : Int) ((hd : Nat) : Int) ((sm : Nat) : Int) kr kq ku s0 ((y1 : Nat) : Int) ((y2 : Nat) : Int) ((y3 : Nat) : Int) s4 s5 hs, cR cI (b 4) 12 f] H := hP
        have hD : va_D (va_A [cM h b ((pm : Nat) : Int) ((n : Nat) : Int) ((k : Nat) : Int) ((d : Nat) : Int) ((rr : Nat) : Int) ((hd : Nat) : Int) ((sm : Nat) : Int) kr kq ku s0 s1 s2 s3 s4 s5 hs, cR cI (b 4) 12 f] sz) [cM h b ((pm : Nat) : Int) ((n : Nat) : Int) ((k : Nat) : Int) ((d : Nat) : Int) ((rr : Nat) : Int) ((hd : Nat) : Int) ((sm : Nat) : Int) kr kq ku s0 ((y1 : Nat) : Int) ((y2 : Nat) : Int) ((y3 : Nat) : Int) s4 s5 hs, cR cI (b 4) 12 f] := hD
        refine W.eq (g2 := F0 m 32 ls [.int (zI (((rl φ n i) : Nat) : Int))]) rfl ?_
        refine lv_istore_n (lv' := [(3, .int (zI (((rl φ n i) : Nat) : Int))), (0, .ref h), (1, .int (zI ((w : Nat) : Int))), (2, .int (zI ((i : Nat) : Int)))]) hx hb dX4_layRings_32 rfl hl (by decide) rfl (fun ls hl => ?_)
        refine lv_aload_n hx hb dX4_layRings_33 rfl (lv_at hl 1 rfl) ?_
        refine lv_iload_n hx hb dX4_layRings_34 rfl (lv_at hl 0 rfl) ?_
        refine lv_aload_n hx hb dX4_layRings_35 rfl (lv_at hl 1 rfl) ?_
        refine va_get (D := D) (ci := 4) (v := .int (zI ((y1 : Nat) : Int))) (C := RX4) (T := TX4) (N := 32) hx hb hts inT_X4 hown hE.1 hP 0 rfl rfl 11 (by decide) (hts _ qf_X4_134) (fun _ h9 => h9) rfl dX4_layRings_36 ?_
        refine z_icmp_le (tgt := 46) hx hb (by omega) dX4_layRings_39 (by decide) (fun c_39 => ?_) (fun c_39 => ?_)
        · have hy1a : y1 = mx (rl φ n) (i + 1) := by rw [mx, ← hy1]; omega
          refine lv_aload_n hx hb dX4_layRings_46 rfl (lv_at hl 1 rfl) ?_
          refine va_get (D := D) (ci := 4) (v := .int (zI ((y1 : Nat) : Int))) (C := RX4) (T := TX4) (N := 32) hx hb hts inT_X4 hown hE.1 hP 0 rfl rfl 11 (by decide) (hts _ qf_X4_134) (fun _ h9 => h9) rfl dX4_layRings_47 ?_
          refine va_put (D := D) (ci := 4) (v := .int (zI ((y1 : Nat) : Int))) (ty := .int) (C := RX4) (T := TX4) (N := 32) hx hb hts inT_X4 tyX4 tyX4_ok nmX4 hown hE.1 hP hD hS 0 rfl rfl 11 (by decide) (hts _ qf_X4_134) (fun _ h9 => h9) rfl (by decide +kernel) rfl rfl (Nat.le_of_ble_eq_true rfl) dX4_layRings_50 (fun H locs hP hD hS => ?_)
          have hP : va_P D cls [cM h b ((pm : Nat) : Int) ((n : Nat) : Int) ((k : Nat) : Int) ((d : Nat) : Int) ((rr : Nat) : Int) ((hd : Nat) : Int) ((sm : Nat) : Int) kr kq ku s0 ((y1 : Nat) : Int) ((y2 : Nat) : Int) ((y3 : Nat) : Int) s4 s5 hs, cR cI (b 4) 12 f] H := hP
          have hD : va_D (va_A [cM h b ((pm : Nat) : Int) ((n : Nat) : Int) ((k : Nat) : Int) ((d : Nat) : Int) ((rr : Nat) : Int) ((hd : Nat) : Int) ((sm : Nat) : Int) kr kq ku s0 s1 s2 s3 s4 s5 hs, cR cI (b 4) 12 f] sz) [cM h b ((pm : Nat) : Int) ((n : Nat) : Int) ((k : Nat) : Int) ((d : Nat) : Int) ((rr : Nat) : Int) ((hd : Nat) : Int) ((sm : Nat) : Int) kr kq ku s0 ((y1 : Nat) : Int) ((y2 : Nat) : Int) ((y3 : Nat) : Int) s4 s5 hs, cR cI (b 4) 12 f] := hD
          refine lv_aload_n hx hb dX4_layRings_53 rfl (lv_at hl 1 rfl) ?_
          refine lv_dup hx hb dX4_layRings_54 rfl ?_
          refine va_get (D := D) (ci := 4) (v := .int (zI ((y2 : Nat) : Int))) (C := RX4) (T := TX4) (N := 32) hx hb hts inT_X4 hown hE.1 hP 0 rfl rfl 12 (by decide) (hts _ qf_X4_137) (fun _ h9 => h9) rfl dX4_layRings_55 ?_
          refine lv_iload_n hx hb dX4_layRings_58 rfl (lv_at hl 0 rfl) ?_
          refine lv_iconst (v := zI 1) hx hb dX4_layRings_59 rfl ?_
          refine z_icmp_ne (tgt := 67) hx hb (by omega) dX4_layRings_60 (by decide) (fun c_60 => ?_) (fun c_60 => ?_)
          · have hy2a : y2 = fb_ct (fun j => decide (φ j = j)) (i + 1) := by rw [ct_f (by simp; omega)]; exact hy2
            refine lv_iconst (v := zI 0) hx hb dX4_layRings_67 rfl ?_
            refine z_iadd hx hb ((y2 : Nat) : Int) (by omega) dX4_layRings_68 ?_
            refine va_put (D := D) (ci := 4) (v := .int (zI ((y2 : Nat) : Int))) (ty := .int) (C := RX4) (T := TX4) (N := 32) hx hb hts inT_X4 tyX4 tyX4_ok nmX4 hown hE.1 hP hD hS 0 rfl rfl 12 (by decide) (hts _ qf_X4_137) (fun _ h9 => h9) rfl (by decide +kernel) rfl rfl (Nat.le_of_ble_eq_true rfl) dX4_layRings_69 (fun H locs hP hD hS => ?_)
            have hP : va_P D cls [cM h b ((pm : Nat) : Int) ((n : Nat) : Int) ((k : Nat) : Int) ((d : Nat) : Int) ((rr : Nat) : Int) ((hd : Nat) : Int) ((sm : Nat) : Int) kr kq ku s0 ((y1 : Nat) : Int) ((y2 : Nat) : Int) ((y3 : Nat) : Int) s4 s5 hs, cR cI (b 4) 12 f] H := hP
            have hD : va_D (va_A [cM h b ((pm : Nat) : Int) ((n : Nat) : Int) ((k : Nat) : Int) ((d : Nat) : Int) ((rr : Nat) : Int) ((hd : Nat) : Int) ((sm : Nat) : Int) kr kq ku s0 s1 s2 s3 s4 s5 hs, cR cI (b 4) 12 f] sz) [cM h b ((pm : Nat) : Int) ((n : Nat) : Int) ((k : Nat) : Int) ((d : Nat) : Int) ((rr : Nat) : Int) ((hd : Nat) : Int) ((sm : Nat) : Int) kr kq ku s0 ((y1 : Nat) : Int) ((y2 : Nat) : Int) ((y3 : Nat) : Int) s4 s5 hs, cR cI (b 4) 12 f] := hD
            refine lv_aload_n hx hb dX4_layRings_72 rfl (lv_at hl 1 rfl) ?_
            refine lv_aload_n hx hb dX4_layRings_73 rfl (lv_at hl 1 rfl) ?_
            refine va_get (D := D) (ci := 4) (v := .int (zI ((y3 : Nat) : Int))) (C := RX4) (T := TX4) (N := 32) hx hb hts inT_X4 hown hE.1 hP 0 rfl rfl 13 (by decide) (hts _ qf_X4_140) (fun _ h9 => h9) rfl dX4_layRings_74 ?_
            refine lv_aload_n hx hb dX4_layRings_77 rfl (lv_at hl 1 rfl) ?_
            refine va_get (D := D) (ci := 4) (v := .int (zI ((y3 : Nat) : Int))) (C := RX4) (T := TX4) (N := 32) hx hb hts inT_X4 hown hE.1 hP 0 rfl rfl 13 (by decide) (hts _ qf_X4_140) (fun _ h9 => h9) rfl dX4_layRings_78 ?_
            refine lv_iload_n hx hb dX4_layRings_81 rfl (lv_at hl 0 rfl) ?_
            refine zcall_i (wc := []) (wr := [cM h b ((pm : Nat) : Int) ((n : Nat) : Int) ((k : Nat) : Int) ((d : Nat) : Int) ((rr : Nat) : Int) ((hd : Nat) : Int) ((sm : Nat) : Int) kr kq ku s0 ((y1 : Nat) : Int) ((y2 : Nat) : Int) ((y3 : Nat) : Int) s4 s5 hs, cR cI (b 4) 12 f]) (rest := [.int (zI ((y3 : Nat) : Int)), .ref h]) hE hP hD hS hA [] [0, 1] [0, 1] rfl rfl (by decide) (by decide) (by decide) (fun (u : Unit) => [cM h b ((pm : Nat) : Int) ((n : Nat) : Int) ((k : Nat) : Int) ((d : Nat) : Int) ((rr : Nat) : Int) ((hd : Nat) : Int) ((sm : Nat) : Int) kr kq ku s0 ((y1 : Nat) : Int) ((y2 : Nat) : Int) ((y3 : Nat) : Int) s4 s5 hs, cR cI (b 4) 12 f]) (fun u => rfl) (fun hPc hDc => zrunS (As := [.int (zI ((y3 : Nat) : Int)), .int (zI (((rl φ n i) : Nat) : Int))]) (rest := [.int (zI ((y3 : Nat) : Int)), .ref h]) K k_X4_common qm_X4_146 ⟨⟨rfl, rfl⟩, ⟨Nat.le_of_ble_eq_true rfl, Nat.le_of_ble_eq_true rfl⟩⟩ hPc hDc (c_X4_common l D cI y3 (rl φ n i) (by first | assumption | omega) (by first | assumption | omega) _) rfl hl.1 rfl (Nat.le_of_ble_eq_true rfl) dX4_layRings_82 ⟨Nat.zero_le _, Nat.zero_le _⟩) (by decide) (fun z u H locs hpost hP hD hS => ?_)
            subst hpost
            have hP : va_P D cls [cM h b ((pm : Nat) : Int) ((n : Nat) : Int) ((k : Nat) : Int) ((d : Nat) : Int) ((rr : Nat) : Int) ((hd : Nat) : Int) ((sm : Nat) : Int) kr kq ku s0 ((y1 : Nat) : Int) ((y2 : Nat) : Int) ((y3 : Nat) : Int) s4 s5 hs, cR cI (b 4) 12 f] H := hP
            have hD : va_D (va_A [cM h b ((pm : Nat) : Int) ((n : Nat) : Int) ((k : Nat) : Int) ((d : Nat) : Int) ((rr : Nat) : Int) ((hd : Nat) : Int) ((sm : Nat) : Int) kr kq ku s0 s1 s2 s3 s4 s5 hs, cR cI (b 4) 12 f] sz) [cM h b ((pm : Nat) : Int) ((n : Nat) : Int) ((k : Nat) : Int) ((d : Nat) : Int) ((rr : Nat) : Int) ((hd : Nat) : Int) ((sm : Nat) : Int) kr kq ku s0 ((y1 : Nat) : Int) ((y2 : Nat) : Int) ((y3 : Nat) : Int) s4 s5 hs, cR cI (b 4) 12 f] := hD
            refine W.eq (g2 := F0 m 85 ls [.int (zI (((Nat.gcd y3 (rl φ n i)) : Nat) : Int)), .int (zI ((y3 : Nat) : Int)), .ref h]) rfl ?_
            refine z_idiv hx hb (((y3 / (Nat.gcd y3 (rl φ n i))) : Nat) : Int) (by omega) rfl dX4_layRings_85 ?_
            refine lv_iload_n hx hb dX4_layRings_86 rfl (lv_at hl 0 rfl) ?_
            refine z_imul hx hb ((Nat.lcm y3 (rl φ n i) : Nat) : Int) (by rw [← (od_step (a := y3) (b := rl φ n i)).resolve_right (by omega), show max 1 (Nat.gcd y3 (rl φ n i)) = Nat.gcd y3 (rl φ n i) by omega]; exact (Int.natCast_mul _ _).symm) dX4_layRings_87 ?_
            have hy3a : Nat.lcm y3 (rl φ n i) = odN φ n (i + 1) := by rw [hy3]; rfl
            refine va_put (D := D) (ci := 4) (v := .int (zI ((Nat.lcm y3 (rl φ n i) : Nat) : Int))) (ty := .int) (C := RX4) (T := TX4) (N := 32) hx hb hts inT_X4 tyX4 tyX4_ok nmX4 hown hE.1 hP hD hS 0 rfl rfl 13 (by decide) (hts _ qf_X4_140) (fun _ h9 => h9) rfl (by decide +kernel) rfl rfl (Nat.le_of_ble_eq_true rfl) dX4_layRings_88 (fun H locs hP hD hS => ?_)
            have hP : va_P D cls [cM h b ((pm : Nat) : Int) ((n : Nat) : Int) ((k : Nat) : Int) ((d : Nat) : Int) ((rr : Nat) : Int) ((hd : Nat) : Int) ((sm : Nat) : Int) kr kq ku s0 ((y1 : Nat) : Int) ((y2 : Nat) : Int) ((Nat.lcm y3 (rl φ n i) : Nat) : Int) s4 s5 hs, cR cI (b 4) 12 f] H := hP
            have hD : va_D (va_A [cM h b ((pm : Nat) : Int) ((n : Nat) : Int) ((k : Nat) : Int) ((d : Nat) : Int) ((rr : Nat) : Int) ((hd : Nat) : Int) ((sm : Nat) : Int) kr kq ku s0 s1 s2 s3 s4 s5 hs, cR cI (b 4) 12 f] sz) [cM h b ((pm : Nat) : Int) ((n : Nat) : Int) ((k : Nat) : Int) ((d : Nat) : Int) ((rr : Nat) : Int) ((hd : Nat) : Int) ((sm : Nat) : Int) kr kq ku s0 ((y1 : Nat) : Int) ((y2 : Nat) : Int) ((Nat.lcm y3 (rl φ n i) : Nat) : Int) s4 s5 hs, cR cI (b 4) 12 f] := hD
            refine lv_iload_n hx hb dX4_layRings_91 rfl (lv_at hl 2 rfl) ?_
            refine lv_sipush (v := zI 27720) hx hb dX4_layRings_92 (by decide) ?_
            refine lv_iload_n hx hb dX4_layRings_95 rfl (lv_at hl 0 rfl) ?_
            refine z_idiv hx hb (((27720 / (rl φ n i)) : Nat) : Int) (by omega) rfl dX4_layRings_96 ?_
            refine z_iadd hx hb (((w + (27720 / (rl φ n i))) : Nat) : Int) (by omega) dX4_layRings_97 ?_
            have hw9 : w + 27720 / rl φ n i ≤ 27720 * (i + 1) := by omega
            refine lv_istore_n (lv' := [(1, .int (zI (((w + (27720 / (rl φ n i))) : Nat) : Int))), (3, .int (zI (((rl φ n i) : Nat) : Int))), (0, .ref h), (2, .int (zI ((i : Nat) : Int)))]) hx hb dX4_layRings_98 rfl hl (by decide) rfl (fun ls hl => ?_)
            refine z_iinc (k := 3) (lv' := [(2, .int (zI (((i + 1) : Nat) : Int))), (1, .int (zI (((w + (27720 / (rl φ n i))) : Nat) : Int))), (3, .int (zI (((rl φ n i) : Nat) : Int))), (0, .ref h)]) hx hb (((i + 1) : Nat) : Int) (by omega) dX4_layRings_99 hl rfl (by decide) rfl (fun ls hl => ?_)
            refine lv_goto (tgt := 19) hx hb dX4_layRings_102 (by decide) ?_
            exact ih_19 (i + 1) (w + (27720 / (rl φ n i))) y1 y2 (Nat.lcm y3 (rl φ n i)) (by omega) (by omega) (by rw [hw]; rfl) (by omega) (by first | exact hy1a | exact hy1b) (by omega) (by first | exact hy2a | exact hy2b) (by exact hy3a) _ _ _ hP hD hS (lv_sub hl [3, 1, 0] rfl)
          · have hy2b : y2 + 1 = fb_ct (fun j => decide (φ j = j)) (i + 1) := by rw [ct_t (by simp; omega)]; omega
            refine lv_iconst (v := zI 1) hx hb dX4_layRings_63 rfl ?_
            refine lv_goto (tgt := 68) hx hb dX4_layRings_64 (by decide) ?_
            refine z_iadd hx hb (((y2 + 1) : Nat) : Int) (by omega) dX4_layRings_68 ?_
            refine va_put (D := D) (ci := 4) (v := .int (zI (((y2 + 1) : Nat) : Int))) (ty := .int) (C := RX4) (T := TX4) (N := 32) hx hb hts inT_X4 tyX4 tyX4_ok nmX4 hown hE.1 hP hD hS 0 rfl rfl 12 (by decide) (hts _ qf_X4_137) (fun _ h9 => h9) rfl (by decide +kernel) rfl rfl (Nat.le_of_ble_eq_true rfl) dX4_layRings_69 (fun H locs hP hD hS => ?_)
            have hP : va_P D cls [cM h b ((pm : Nat) : Int) ((n : Nat) : Int) ((k : Nat) : Int) ((d : Nat) : Int) ((rr : Nat) : Int) ((hd : Nat) : Int) ((sm : Nat) : Int) kr kq ku s0 ((y1 : Nat) : Int) (((y2 + 1) : Nat) : Int) ((y3 : Nat) : Int) s4 s5 hs, cR cI (b 4) 12 f] H := hP
            have hD : va_D (va_A [cM h b ((pm : Nat) : Int) ((n : Nat) : Int) ((k : Nat) : Int) ((d : Nat) : Int) ((rr : Nat) : Int) ((hd : Nat) : Int) ((sm : Nat) : Int) kr kq ku s0 s1 s2 s3 s4 s5 hs, cR cI (b 4) 12 f] sz) [cM h b ((pm : Nat) : Int) ((n : Nat) : Int) ((k : Nat) : Int) ((d : Nat) : Int) ((rr : Nat) : Int) ((hd : Nat) : Int) ((sm : Nat) : Int) kr kq ku s0 ((y1 : Nat) : Int) (((y2 + 1) : Nat) : Int) ((y3 : Nat) : Int) s4 s5 hs, cR cI (b 4) 12 f] := hD
            refine lv_aload_n hx hb dX4_layRings_72 rfl (lv_at hl 1 rfl) ?_
            refine lv_aload_n hx hb dX4_layRings_73 rfl (lv_at hl 1 rfl) ?_
            refine va_get (D := D) (ci := 4) (v := .int (zI ((y3 : Nat) : Int))) (C := RX4) (T := TX4) (N := 32) hx hb hts inT_X4 hown hE.1 hP 0 rfl rfl 13 (by decide) (hts _ qf_X4_140) (fun _ h9 => h9) rfl dX4_layRings_74 ?_
            refine lv_aload_n hx hb dX4_layRings_77 rfl (lv_at hl 1 rfl) ?_
            refine va_get (D := D) (ci := 4) (v := .int (zI ((y3 : Nat) : Int))) (C := RX4) (T := TX4) (N := 32) hx hb hts inT_X4 hown hE.1 hP 0 rfl rfl 13 (by decide) (hts _ qf_X4_140) (fun _ h9 => h9) rfl dX4_layRings_78 ?_
            refine lv_iload_n hx hb dX4_layRings_81 rfl (lv_at hl 0 rfl) ?_
            refine zcall_i (wc := []) (wr := [cM h b ((pm : Nat) : Int) ((n : Nat) : Int) ((k : Nat) : Int) ((d : Nat) : Int) ((rr : Nat) : Int) ((hd : Nat) : Int) ((sm : Nat) : Int) kr kq ku s0 ((y1 : Nat) : Int) (((y2 + 1) : Nat) : Int) ((y3 : Nat) : Int) s4 s5 hs, cR cI (b 4) 12 f]) (rest := [.int (zI ((y3 : Nat) : Int)), .ref h]) hE hP hD hS hA [] [0, 1] [0, 1] rfl rfl (by decide) (by decide) (by decide) (fun (u : Unit) => [cM h b ((pm : Nat) : Int) ((n : Nat) : Int) ((k : Nat) : Int) ((d : Nat) : Int) ((rr : Nat) : Int) ((hd : Nat) : Int) ((sm : Nat) : Int) kr kq ku s0 ((y1 : Nat) : Int) (((y2 + 1) : Nat) : Int) ((y3 : Nat) : Int) s4 s5 hs, cR cI (b 4) 12 f]) (fun u => rfl) (fun hPc hDc => zrunS (As := [.int (zI ((y3 : Nat) : Int)), .int (zI (((rl φ n i) : Nat) : Int))]) (rest := [.int (zI ((y3 : Nat) : Int)), .ref h]) K k_X4_common qm_X4_146 ⟨⟨rfl, rfl⟩, ⟨Nat.le_of_ble_eq_true rfl, Nat.le_of_ble_eq_true rfl⟩⟩ hPc hDc (c_X4_common l D cI y3 (rl φ n i) (by first | assumption | omega) (by first | assumption | omega) _) rfl hl.1 rfl (Nat.le_of_ble_eq_true rfl) dX4_layRings_82 ⟨Nat.zero_le _, Nat.zero_le _⟩) (by decide) (fun z u H locs hpost hP hD hS => ?_)
            subst hpost
            have hP : va_P D cls [cM h b ((pm : Nat) : Int) ((n : Nat) : Int) ((k : Nat) : Int) ((d : Nat) : Int) ((rr : Nat) : Int) ((hd : Nat) : Int) ((sm : Nat) : Int) kr kq ku s0 ((y1 : Nat) : Int) (((y2 + 1) : Nat) : Int) ((y3 : Nat) : Int) s4 s5 hs, cR cI (b 4) 12 f] H := hP
            have hD : va_D (va_A [cM h b ((pm : Nat) : Int) ((n : Nat) : Int) ((k : Nat) : Int) ((d : Nat) : Int) ((rr : Nat) : Int) ((hd : Nat) : Int) ((sm : Nat) : Int) kr kq ku s0 s1 s2 s3 s4 s5 hs, cR cI (b 4) 12 f] sz) [cM h b ((pm : Nat) : Int) ((n : Nat) : Int) ((k : Nat) : Int) ((d : Nat) : Int) ((rr : Nat) : Int) ((hd : Nat) : Int) ((sm : Nat) : Int) kr kq ku s0 ((y1 : Nat) : Int) (((y2 + 1) : Nat) : Int) ((y3 : Nat) : Int) s4 s5 hs, cR cI (b 4) 12 f] := hD
            refine W.eq (g2 := F0 m 85 ls [.int (zI (((Nat.gcd y3 (rl φ n i)) : Nat) : Int)), .int (zI ((y3 : Nat) : Int)), .ref h]) rfl ?_
            refine z_idiv hx hb (((y3 / (Nat.gcd y3 (rl φ n i))) : Nat) : Int) (by omega) rfl dX4_layRings_85 ?_
            refine lv_iload_n hx hb dX4_layRings_86 rfl (lv_at hl 0 rfl) ?_
            refine z_imul hx hb ((Nat.lcm y3 (rl φ n i) : Nat) : Int) (by rw [← (od_step (a := y3) (b := rl φ n i)).resolve_right (by omega), show max 1 (Nat.gcd y3 (rl φ n i)) = Nat.gcd y3 (rl φ n i) by omega]; exact (Int.natCast_mul _ _).symm) dX4_layRings_87 ?_
            have hy3a : Nat.lcm y3 (rl φ n i) = odN φ n (i + 1) := by rw [hy3]; rfl
            refine va_put (D := D) (ci := 4) (v := .int (zI ((Nat.lcm y3 (rl φ n i) : Nat) : Int))) (ty := .int) (C := RX4) (T := TX4) (N := 32) hx hb hts inT_X4 tyX4 tyX4_ok nmX4 hown hE.1 hP hD hS 0 rfl rfl 13 (by decide) (hts _ qf_X4_140) (fun _ h9 => h9) rfl (by decide +kernel) rfl rfl (Nat.le_of_ble_eq_true rfl) dX4_layRings_88 (fun H locs hP hD hS => ?_)
            have hP : va_P D cls [cM h b ((pm : Nat) : Int) ((n : Nat) : Int) ((k : Nat) : Int) ((d : Nat) : Int) ((rr : Nat) : Int) ((hd : Nat) : Int) ((sm : Nat) : Int) kr kq ku s0 ((y1 : Nat) : Int) (((y2 + 1) : Nat) : Int) ((Nat.lcm y3 (rl φ n i) : Nat) : Int) s4 s5 hs, cR cI (b 4) 12 f] H := hP
            have hD : va_D (va_A [cM h b ((pm : Nat) : Int) ((n : Nat) : Int) ((k : Nat) : Int) ((d : Nat) : Int) ((rr : Nat) : Int) ((hd : Nat) : Int) ((sm : Nat) : Int) kr kq ku s0 s1 s2 s3 s4 s5 hs, cR cI (b 4) 12 f] sz) [cM h b ((pm : Nat) : Int) ((n : Nat) : Int) ((k : Nat) : Int) ((d : Nat) : Int) ((rr : Nat) : Int) ((hd : Nat) : Int) ((sm : Nat) : Int) kr kq ku s0 ((y1 : Nat) : Int) (((y2 + 1) : Nat) : Int) ((Nat.lcm y3 (rl φ n i) : Nat) : Int) s4 s5 hs, cR cI (b 4) 12 f] := hD
            refine lv_iload_n hx hb dX4_layRings_91 rfl (lv_at hl 2 rfl) ?_
            refine lv_sipush (v := zI 27720) hx hb dX4_layRings_92 (by decide) ?_
            refine lv_iload_n hx hb dX4_layRings_95 rfl (lv_at hl 0 rfl) ?_
            refine z_idiv hx hb (((27720 / (rl φ n i)) : Nat) : Int) (by omega) rfl dX4_layRings_96 ?_
            refine z_iadd hx hb (((w + (27720 / (rl φ n i))) : Nat) : Int) (by omega) dX4_layRings_97 ?_
            have hw9 : w + 27720 / rl φ n i ≤ 27720 * (i + 1) := by omega
            refine lv_istore_n (lv' := [(1, .int (zI (((w + (27720 / (rl φ n i))) : Nat) : Int))), (3, .int (zI (((rl φ n i) : Nat) : Int))), (0, .ref h), (2, .int (zI ((i : Nat) : Int)))]) hx hb dX4_layRings_98 rfl hl (by decide) rfl (fun ls hl => ?_)
            refine z_iinc (k := 3) (lv' := [(2, .int (zI (((i + 1) : Nat) : Int))), (1, .int (zI (((w + (27720 / (rl φ n i))) : Nat) : Int))), (3, .int (zI (((rl φ n i) : Nat) : Int))), (0, .ref h)]) hx hb (((i + 1) : Nat) : Int) (by omega) dX4_layRings_99 hl rfl (by decide) rfl (fun ls hl => ?_)
            refine lv_goto (tgt := 19) hx hb dX4_layRings_102 (by decide) ?_
            exact ih_19 (i + 1) (w + (27720 / (rl φ n i))) y1 (y2 + 1) (Nat.lcm y3 (rl φ n i)) (by omega) (by omega) (by rw [hw]; rfl) (by omega) (by first | exact hy1a | exact hy1b) (by omega) (by first | exact hy2a | exact hy2b) (by exact hy3a) _ _ _ hP hD hS (lv_sub hl [3, 1, 0] rfl)
        · have hy1b : rl φ n i = mx (rl φ n) (i + 1) := by rw [mx, ← hy1]; omega
          refine lv_iload_n hx hb dX4_layRings_42 rfl (lv_at hl 0 rfl) ?_
          refine lv_goto (tgt := 50) hx hb dX4_layRings_43 (by decide) ?_
          refine va_put (D := D) (ci := 4) (v := .int (zI (((rl φ n i) : Nat) : Int))) (ty := .int) (C := RX4) (T := TX4) (N := 32) hx hb hts inT_X4 tyX4 tyX4_ok nmX4 hown hE.1 hP hD hS 0 rfl rfl 11 (by decide) (hts _ qf_X4_134) (fun _ h9 => h9) rfl (by decide +kernel) rfl rfl (Nat.le_of_ble_eq_true rfl) dX4_layRings_50 (fun H locs hP hD hS => ?_)
          have hP : va_P D cls [cM h b ((pm : Nat) : Int) ((n : Nat) : Int) ((k : Nat) : Int) ((d : Nat) : Int) ((rr : Nat) : Int) ((hd : Nat) : Int) ((sm : Nat) : Int) kr kq ku s0 (((rl φ n i) : Nat) : Int) ((y2 : Nat) : Int) ((y3 : Nat) : Int) s4 s5 hs, cR cI (b 4) 12 f] H := hP
          have hD : va_D (va_A [cM h b ((pm : Nat) : Int) ((n : Nat) : Int) ((k : Nat) : Int) ((d : Nat) : Int) ((rr : Nat) : Int) ((hd : Nat) : Int) ((sm : Nat) : Int) kr kq ku s0 s1 s2 s3 s4 s5 hs, cR cI (b 4) 12 f] sz) [cM h b ((pm : Nat) : Int) ((n : Nat) : Int) ((k : Nat) : Int) ((d : Nat) : Int) ((rr : Nat) : Int) ((hd : Nat) : Int) ((sm : Nat) : Int) kr kq ku s0 (((rl φ n i) : Nat) : Int) ((y2 : Nat) : Int) ((y3 : Nat) : Int) s4 s5 hs, cR cI (b 4) 12 f] := hD
          refine lv_aload_n hx hb dX4_layRings_53 rfl (lv_at hl 1 rfl) ?_
          refine lv_dup hx hb dX4_layRings_54 rfl ?_
          refine va_get (D := D) (ci := 4) (v := .int (zI ((y2 : Nat) : Int))) (C := RX4) (T := TX4) (N := 32) hx hb hts inT_X4 hown hE.1 hP 0 rfl rfl 12 (by decide) (hts _ qf_X4_137) (fun _ h9 => h9) rfl dX4_layRings_55 ?_
          refine lv_iload_n hx hb dX4_layRings_58 rfl (lv_at hl 0 rfl) ?_
          refine lv_iconst (v := zI 1) hx hb dX4_layRings_59 rfl ?_
          refine z_icmp_ne (tgt := 67) hx hb (by omega) dX4_layRings_60 (by decide) (fun c_60 => ?_) (fun c_60 => ?_)
          · have hy2a : y2 = fb_ct (fun j => decide (φ j = j)) (i + 1) := by rw [ct_f (by simp; omega)]; exact hy2
            refine lv_iconst (v := zI 0) hx hb dX4_layRings_67 rfl ?_
            refine z_iadd hx hb ((y2 : Nat) : Int) (by omega) dX4_layRings_68 ?_
            refine va_put (D := D) (ci := 4) (v := .int (zI ((y2 : Nat) : Int))) (ty := .int) (C := RX4) (T := TX4) (N := 32) hx hb hts inT_X4 tyX4 tyX4_ok nmX4 hown hE.1 hP hD hS 0 rfl rfl 12 (by decide) (hts _ qf_X4_137) (fun _ h9 => h9) rfl (by decide +kernel) rfl rfl (Nat.le_of_ble_eq_true rfl) dX4_layRings_69 (fun H locs hP hD hS => ?_)
            have hP : va_P D cls [cM h b ((pm : Nat) : Int) ((n : Nat) : Int) ((k : Nat) : Int) ((d : Nat) : Int) ((rr : Nat) : Int) ((hd : Nat) : Int) ((sm : Nat) : Int) kr kq ku s0 (((rl φ n i) : Nat) : Int) ((y2 : Nat) : Int) ((y3 : Nat) : Int) s4 s5 hs, cR cI (b 4) 12 f] H := hP
            have hD : va_D (va_A [cM h b ((pm : Nat) : Int) ((n : Nat) : Int) ((k : Nat) : Int) ((d : Nat) : Int) ((rr : Nat) : Int) ((hd : Nat) : Int) ((sm : Nat) : Int) kr kq ku s0 s1 s2 s3 s4 s5 hs, cR cI (b 4) 12 f] sz) [cM h b ((pm : Nat) : Int) ((n : Nat) : Int) ((k : Nat) : Int) ((d : Nat) : Int) ((rr : Nat) : Int) ((hd : Nat) : Int) ((sm : Nat) : Int) kr kq ku s0 (((rl φ n i) : Nat) : Int) ((y2 : Nat) : Int) ((y3 : Nat) : Int) s4 s5 hs, cR cI (b 4) 12 f] := hD
            refine lv_aload_n hx hb dX4_layRings_72 rfl (lv_at hl 1 rfl) ?_
            refine lv_aload_n hx hb dX4_layRings_73 rfl (lv_at hl 1 rfl) ?_
            refine va_get (D := D) (ci := 4) (v := .int (zI ((y3 : Nat) : Int))) (C := RX4) (T := TX4) (N := 32) hx hb hts inT_X4 hown hE.1 hP 0 rfl rfl 13 (by decide) (hts _ qf_X4_140) (fun _ h9 => h9) rfl dX4_layRings_74 ?_
            refine lv_aload_n hx hb dX4_layRings_77 rfl (lv_at hl 1 rfl) ?_
            refine va_get (D := D) (ci := 4) (v := .int (zI ((y3 : Nat) : Int))) (C := RX4) (T := TX4) (N := 32) hx hb hts inT_X4 hown hE.1 hP 0 rfl rfl 13 (by decide) (hts _ qf_X4_140) (fun _ h9 => h9) rfl dX4_layRings_78 ?_
            refine lv_iload_n hx hb dX4_layRings_81 rfl (lv_at hl 0 rfl) ?_
            refine zcall_i (wc := []) (wr := [cM h b ((pm : Nat) : Int) ((n : Nat) : Int) ((k : Nat) : Int) ((d : Nat) : Int) ((rr : Nat) : Int) ((hd : Nat) : Int) ((sm : Nat) : Int) kr kq ku s0 (((rl φ n i) : Nat) : Int) ((y2 : Nat) : Int) ((y3 : Nat) : Int) s4 s5 hs, cR cI (b 4) 12 f]) (rest := [.int (zI ((y3 : Nat) : Int)), .ref h]) hE hP hD hS hA [] [0, 1] [0, 1] rfl rfl (by decide) (by decide) (by decide) (fun (u : Unit) => [cM h b ((pm : Nat) : Int) ((n : Nat) : Int) ((k : Nat) : Int) ((d : Nat) : Int) ((rr : Nat) : Int) ((hd : Nat) : Int) ((sm : Nat) : Int) kr kq ku s0 (((rl φ n i) : Nat) : Int) ((y2 : Nat) : Int) ((y3 : Nat) : Int) s4 s5 hs, cR cI (b 4) 12 f]) (fun u => rfl) (fun hPc hDc => zrunS (As := [.int (zI ((y3 : Nat) : Int)), .int (zI (((rl φ n i) : Nat) : Int))]) (rest := [.int (zI ((y3 : Nat) : Int)), .ref h]) K k_X4_common qm_X4_146 ⟨⟨rfl, rfl⟩, ⟨Nat.le_of_ble_eq_true rfl, Nat.le_of_ble_eq_true rfl⟩⟩ hPc hDc (c_X4_common l D cI y3 (rl φ n i) (by first | assumption | omega) (by first | assumption | omega) _) rfl hl.1 rfl (Nat.le_of_ble_eq_true rfl) dX4_layRings_82 ⟨Nat.zero_le _, Nat.zero_le _⟩) (by decide) (fun z u H locs hpost hP hD hS => ?_)
            subst hpost
            have hP : va_P D cls [cM h b ((pm : Nat) : Int) ((n : Nat) : Int) ((k : Nat) : Int) ((d : Nat) : Int) ((rr : Nat) : Int) ((hd : Nat) : Int) ((sm : Nat) : Int) kr kq ku s0 (((rl φ n i) : Nat) : Int) ((y2 : Nat) : Int) ((y3 : Nat) : Int) s4 s5 hs, cR cI (b 4) 12 f] H := hP
            have hD : va_D (va_A [cM h b ((pm : Nat) : Int) ((n : Nat) : Int) ((k : Nat) : Int) ((d : Nat) : Int) ((rr : Nat) : Int) ((hd : Nat) : Int) ((sm : Nat) : Int) kr kq ku s0 s1 s2 s3 s4 s5 hs, cR cI (b 4) 12 f] sz) [cM h b ((pm : Nat) : Int) ((n : Nat) : Int) ((k : Nat) : Int) ((d : Nat) : Int) ((rr : Nat) : Int) ((hd : Nat) : Int) ((sm : Nat) : Int) kr kq ku s0 (((rl φ n i) : Nat) : Int) ((y2 : Nat) : Int) ((y3 : Nat) : Int) s4 s5 hs, cR cI (b 4) 12 f] := hD
            refine W.eq (g2 := F0 m 85 ls [.int (zI (((Nat.gcd y3 (rl φ n i)) : Nat) : Int)), .int (zI ((y3 : Nat) : Int)), .ref h]) rfl ?_
            refine z_idiv hx hb (((y3 / (Nat.gcd y3 (rl φ n i))) : Nat) : Int) (by omega) rfl dX4_layRings_85 ?_
            refine lv_iload_n hx hb dX4_layRings_86 rfl (lv_at hl 0 rfl) ?_
            refine z_imul hx hb ((Nat.lcm y3 (rl φ n i) : Nat) : Int) (by rw [← (od_step (a := y3) (b := rl φ n i)).resolve_right (by omega), show max 1 (Nat.gcd y3 (rl φ n i)) = Nat.gcd y3 (rl φ n i) by omega]; exact (Int.natCast_mul _ _).symm) dX4_layRings_87 ?_
            have hy3a : Nat.lcm y3 (rl φ n i) = odN φ n (i + 1) := by rw [hy3]; rfl
            refine va_put (D := D) (ci := 4) (v := .int (zI ((Nat.lcm y3 (rl φ n i) : Nat) : Int))) (ty := .int) (C := RX4) (T := TX4) (N := 32) hx hb hts inT_X4 tyX4 tyX4_ok nmX4 hown hE.1 hP hD hS 0 rfl rfl 13 (by decide) (hts _ qf_X4_140) (fun _ h9 => h9) rfl (by decide +kernel) rfl rfl (Nat.le_of_ble_eq_true rfl) dX4_layRings_88 (fun H locs hP hD hS => ?_)
            have hP : va_P D cls [cM h b ((pm : Nat) : Int) ((n : Nat) : Int) ((k : Nat) : Int) ((d : Nat) : Int) ((rr : Nat) : Int) ((hd : Nat) : Int) ((sm : Nat) : Int) kr kq ku s0 (((rl φ n i) : Nat) : Int) ((y2 : Nat) : Int) ((Nat.lcm y3 (rl φ n i) : Nat) : Int) s4 s5 hs, cR cI (b 4) 12 f] H := hP
            have hD : va_D (va_A [cM h b ((pm : Nat) : Int) ((n : Nat) : Int) ((k : Nat) : Int) ((d : Nat) : Int) ((rr : Nat) : Int) ((hd : Nat) : Int) ((sm : Nat) : Int) kr kq ku s0 s1 s2 s3 s4 s5 hs, cR cI (b 4) 12 f] sz) [cM h b ((pm : Nat) : Int) ((n : Nat) : Int) ((k : Nat) : Int) ((d : Nat) : Int) ((rr : Nat) : Int) ((hd : Nat) : Int) ((sm : Nat) : Int) kr kq ku s0 (((rl φ n i) : Nat) : Int) ((y2 : Nat) : Int) ((Nat.lcm y3 (rl φ n i) : Nat) : Int) s4 s5 hs, cR cI (b 4) 12 f] := hD
            refine lv_iload_n hx hb dX4_layRings_91 rfl (lv_at hl 2 rfl) ?_
            refine lv_sipush (v := zI 27720) hx hb dX4_layRings_92 (by decide) ?_
            refine lv_iload_n hx hb dX4_layRings_95 rfl (lv_at hl 0 rfl) ?_
            refine z_idiv hx hb (((27720 / (rl φ n i)) : Nat) : Int) (by omega) rfl dX4_layRings_96 ?_
            refine z_iadd hx hb (((w + (27720 / (rl φ n i))) : Nat) : Int) (by omega) dX4_layRings_97 ?_
            have hw9 : w + 27720 / rl φ n i ≤ 27720 * (i + 1) := by omega
            refine lv_istore_n (lv' := [(1, .int (zI (((w + (27720 / (rl φ n i))) : Nat) : Int))), (3, .int (zI (((rl φ n i) : Nat) : Int))), (0, .ref h), (2, .int (zI ((i : Nat) : Int)))]) hx hb dX4_layRings_98 rfl hl (by decide) rfl (fun ls hl => ?_)
            refine z_iinc (k := 3) (lv' := [(2, .int (zI (((i + 1) : Nat) : Int))), (1, .int (zI (((w + (27720 / (rl φ n i))) : Nat) : Int))), (3, .int (zI (((rl φ n i) : Nat) : Int))), (0, .ref h)]) hx hb (((i + 1) : Nat) : Int) (by omega) dX4_layRings_99 hl rfl (by decide) rfl (fun ls hl => ?_)
            refine lv_goto (tgt := 19) hx hb dX4_layRings_102 (by decide) ?_
            exact ih_19 (i + 1) (w + (27720 / (rl φ n i))) (rl φ n i) y2 (Nat.lcm y3 (rl φ n i)) (by omega) (by omega) (by rw [hw]; rfl) (by omega) (by first | exact hy1a | exact hy1b) (by omega) (by first | exact hy2a | exact hy2b) (by exact hy3a) _ _ _ hP hD hS (lv_sub hl [3, 1, 0] rfl)
          · have hy2b : y2 + 1 = fb_ct (fun j => decide (φ j = j)) (i + 1) := by rw [ct_t (by simp; omega)]; omega
            refine lv_iconst (v := zI 1) hx hb dX4_layRings_63 rfl ?_
            refine lv_goto (tgt := 68) hx hb dX4_layRings_64 (by decide) ?_
            refine z_iadd hx hb (((y2 + 1) : Nat) : Int) (by omega) dX4_layRings_68 ?_
            refine va_put (D := D) (ci := 4) (v := .int (zI (((y2 + 1) : Nat) : Int))) (ty := .int) (C := RX4) (T := TX4) (N := 32) hx hb hts inT_X4 tyX4 tyX4_ok nmX4 hown hE.1 hP hD hS 0 rfl rfl 12 (by decide) (hts _ qf_X4_137) (fun _ h9 => h9) rfl (by decide +kernel) rfl rfl (Nat.le_of_ble_eq_true rfl) dX4_layRings_69 (fun H locs hP hD hS => ?_)
            have hP : va_P D cls [cM h b ((pm : Nat) : Int) ((n : Nat) : Int) ((k : Nat) : Int) ((d : Nat) : Int) ((rr : Nat) : Int) ((hd : Nat) : Int) ((sm : Nat) : Int) kr kq ku s0 (((rl φ n i) : Nat) : Int) (((y2 + 1) : Nat) : Int) ((y3 : Nat) : Int) s4 s5 hs, cR cI (b 4) 12 f] H := hP
            have hD : va_D (va_A [cM h b ((pm : Nat) : Int) ((n : Nat) : Int) ((k : Nat) : Int) ((d : Nat) : Int) ((rr : Nat) : Int) ((hd : Nat) : Int) ((sm : Nat) : Int) kr kq ku s0 s1 s2 s3 s4 s5 hs, cR cI (b 4) 12 f] sz) [cM h b ((pm : Nat) : Int) ((n : Nat) : Int) ((k : Nat) : Int) ((d : Nat) : Int) ((rr : Nat) : Int) ((hd : Nat) : Int) ((sm : Nat) : Int) kr kq ku s0 (((rl φ n i) : Nat) : Int) (((y2 + 1) : Nat) : Int) ((y3 : Nat) : Int) s4 s5 hs, cR cI (b 4) 12 f] := hD
            refine lv_aload_n hx hb dX4_layRings_72 rfl (lv_at hl 1 rfl) ?_
            refine lv_aload_n hx hb dX4_layRings_73 rfl (lv_at hl 1 rfl) ?_
            refine va_get (D := D) (ci := 4) (v := .int (zI ((y3 : Nat) : Int))) (C := RX4) (T := TX4) (N := 32) hx hb hts inT_X4 hown hE.1 hP 0 rfl rfl 13 (by decide) (hts _ qf_X4_140) (fun _ h9 => h9) rfl dX4_layRings_74 ?_
            refine lv_aload_n hx hb dX4_layRings_77 rfl (lv_at hl 1 rfl) ?_
            refine va_get (D := D) (ci := 4) (v := .int (zI ((y3 : Nat) : Int))) (C := RX4) (T := TX4) (N := 32) hx hb hts inT_X4 hown hE.1 hP 0 rfl rfl 13 (by decide) (hts _ qf_X4_140) (fun _ h9 => h9) rfl dX4_layRings_78 ?_
            refine lv_iload_n hx hb dX4_layRings_81 rfl (lv_at hl 0 rfl) ?_
            refine zcall_i (wc := []) (wr := [cM h b ((pm : Nat) : Int) ((n : Nat) : Int) ((k : Nat) : Int) ((d : Nat) : Int) ((rr : Nat) : Int) ((hd : Nat) : Int) ((sm : Nat) : Int) kr kq ku s0 (((rl φ n i) : Nat) : Int) (((y2 + 1) : Nat) : Int) ((y3 : Nat) : Int) s4 s5 hs, cR cI (b 4) 12 f]) (rest := [.int (zI ((y3 : Nat) : Int)), .ref h]) hE hP hD hS hA [] [0, 1] [0, 1] rfl rfl (by decide) (by decide) (by decide) (fun (u : Unit) => [cM h b ((pm : Nat) : Int) ((n : Nat) : Int) ((k : Nat) : Int) ((d : Nat) : Int) ((rr : Nat) : Int) ((hd : Nat) : Int) ((sm : Nat) : Int) kr kq ku s0 (((rl φ n i) : Nat) : Int) (((y2 + 1) : Nat) : Int) ((y3 : Nat) : Int) s4 s5 hs, cR cI (b 4) 12 f]) (fun u => rfl) (fun hPc hDc => zrunS (As := [.int (zI ((y3 : Nat) : Int)), .int (zI (((rl φ n i) : Nat) : Int))]) (rest := [.int (zI ((y3 : Nat) : Int)), .ref h]) K k_X4_common qm_X4_146 ⟨⟨rfl, rfl⟩, ⟨Nat.le_of_ble_eq_true rfl, Nat.le_of_ble_eq_true rfl⟩⟩ hPc hDc (c_X4_common l D cI y3 (rl φ n i) (by first | assumption | omega) (by first | assumption | omega) _) rfl hl.1 rfl (Nat.le_of_ble_eq_true rfl) dX4_layRings_82 ⟨Nat.zero_le _, Nat.zero_le _⟩) (by decide) (fun z u H locs hpost hP hD hS => ?_)
            subst hpost
            have hP : va_P D cls [cM h b ((pm : Nat) : Int) ((n : Nat) : Int) ((k : Nat) : Int) ((d : Nat) : Int) ((rr : Nat) : Int) ((hd : Nat) : Int) ((sm : Nat) : Int) kr kq ku s0 (((rl φ n i) : Nat) : Int) (((y2 + 1) : Nat) : Int) ((y3 : Nat) : Int) s4 s5 hs, cR cI (b 4) 12 f] H := hP
            have hD : va_D (va_A [cM h b ((pm : Nat) : Int) ((n : Nat) : Int) ((k : Nat) : Int) ((d : Nat) : Int) ((rr : Nat) : Int) ((hd : Nat) : Int) ((sm : Nat) : Int) kr kq ku s0 s1 s2 s3 s4 s5 hs, cR cI (b 4) 12 f] sz) [cM h b ((pm : Nat) : Int) ((n : Nat) : Int) ((k : Nat) : Int) ((d : Nat) : Int) ((rr : Nat) : Int) ((hd : Nat) : Int) ((sm : Nat) : Int) kr kq ku s0 (((rl φ n i) : Nat) : Int) (((y2 + 1) : Nat) : Int) ((y3 : Nat) : Int) s4 s5 hs, cR cI (b 4) 12 f] := hD
            refine W.eq (g2 := F0 m 85 ls [.int (zI (((Nat.gcd y3 (rl φ n i)) : Nat) : Int)), .int (zI ((y3 : Nat) : Int)), .ref h]) rfl ?_
            refine z_idiv hx hb (((y3 / (Nat.gcd y3 (rl φ n i))) : Nat) : Int) (by omega) rfl dX4_layRings_85 ?_
            refine lv_iload_n hx hb dX4_layRings_86 rfl (lv_at hl 0 rfl) ?_
            refine z_imul hx hb ((Nat.lcm y3 (rl φ n i) : Nat) : Int) (by rw [← (od_step (a := y3) (b := rl φ n i)).resolve_right (by omega), show max 1 (Nat.gcd y3 (rl φ n i)) = Nat.gcd y3 (rl φ n i) by omega]; exact (Int.natCast_mul _ _).symm) dX4_layRings_87 ?_
            have hy3a : Nat.lcm y3 (rl φ n i) = odN φ n (i + 1) := by rw [hy3]; rfl
            refine va_put (D := D) (ci := 4) (v := .int (zI ((Nat.lcm y3 (rl φ n i) : Nat) : Int))) (ty := .int) (C := RX4) (T := TX4) (N := 32) hx hb hts inT_X4 tyX4 tyX4_ok nmX4 hown hE.1 hP hD hS 0 rfl rfl 13 (by decide) (hts _ qf_X4_140) (fun _ h9 => h9) rfl (by decide +kernel) rfl rfl (Nat.le_of_ble_eq_true rfl) dX4_layRings_88 (fun H locs hP hD hS => ?_)
            have hP : va_P D cls [cM h b ((pm : Nat) : Int) ((n : Nat) : Int) ((k : Nat) : Int) ((d : Nat) : Int) ((rr : Nat) : Int) ((hd : Nat) : Int) ((sm : Nat) : Int) kr kq ku s0 (((rl φ n i) : Nat) : Int) (((y2 + 1) : Nat) : Int) ((Nat.lcm y3 (rl φ n i) : Nat) : Int) s4 s5 hs, cR cI (b 4) 12 f] H := hP
            have hD : va_D (va_A [cM h b ((pm : Nat) : Int) ((n : Nat) : Int) ((k : Nat) : Int) ((d : Nat) : Int) ((rr : Nat) : Int) ((hd : Nat) : Int) ((sm : Nat) : Int) kr kq ku s0 s1 s2 s3 s4 s5 hs, cR cI (b 4) 12 f] sz) [cM h b ((pm : Nat) : Int) ((n : Nat) : Int) ((k : Nat) : Int) ((d : Nat) : Int) ((rr : Nat) : Int) ((hd : Nat) : Int) ((sm : Nat) : Int) kr kq ku s0 (((rl φ n i) : Nat) : Int) (((y2 + 1) : Nat) : Int) ((Nat.lcm y3 (rl φ n i) : Nat) : Int) s4 s5 hs, cR cI (b 4) 12 f] := hD
            refine lv_iload_n hx hb dX4_layRings_91 rfl (lv_at hl 2 rfl) ?_
            refine lv_sipush (v := zI 27720) hx hb dX4_layRings_92 (by decide) ?_
            refine lv_iload_n hx hb dX4_layRings_95 rfl (lv_at hl 0 rfl) ?_
            refine z_idiv hx hb (((27720 / (rl φ n i)) : Nat) : Int) (by omega) rfl dX4_layRings_96 ?_
            refine z_iadd hx hb (((w + (27720 / (rl φ n i))) : Nat) : Int) (by omega) dX4_layRings_97 ?_
            have hw9 : w + 27720 / rl φ n i ≤ 27720 * (i + 1) := by omega
            refine lv_istore_n (lv' := [(1, .int (zI (((w + (27720 / (rl φ n i))) : Nat) : Int))), (3, .int (zI (((rl φ n i) : Nat) : Int))), (0, .ref h), (2, .int (zI ((i : Nat) : Int)))]) hx hb dX4_layRings_98 rfl hl (by decide) rfl (fun ls hl => ?_)
            refine z_iinc (k := 3) (lv' := [(2, .int (zI (((i + 1) : Nat) : Int))), (1, .int (zI (((w + (27720 / (rl φ n i))) : Nat) : Int))), (3, .int (zI (((rl φ n i) : Nat) : Int))), (0, .ref h)]) hx hb (((i + 1) : Nat) : Int) (by omega) dX4_layRings_99 hl rfl (by decide) rfl (fun ls hl => ?_)
            refine lv_goto (tgt := 19) hx hb dX4_layRings_102 (by decide) ?_
            exact ih_19 (i + 1) (w + (27720 / (rl φ n i))) (rl φ n i) (y2 + 1) (Nat.lcm y3 (rl φ n i)) (by omega) (by omega) (by rw [hw]; rfl) (by omega) (by first | exact hy1a | exact hy1b) (by omega) (by first | exact hy2a | exact hy2b) (by exact hy3a) _ _ _ hP hD hS (lv_sub hl [3, 1, 0] rfl)
  exact cut_19 (n - 0 + 1) 0 0 0 0 1 (Nat.lt_succ_self _) (by omega) (by rfl) (by omega) (by rfl) (by omega) (by rfl) (by rfl) _ _ _ hP hD hS (lv_sub hl [2, 1, 0] rfl)
set_option maxHeartbeats 4000000 in
set_option maxRecDepth 100000 in
theorem c_X4_layRound (l : Launch) (D : va_G) (cI : ClassId) (h : Nat) (b : Nat → Nat) (pm n k d rr hd sm : Nat) (kr kq ku s0 s1 s2 s3 s4 s5 hs : Int) (g0 g1 : Nat → Int) (κ ν : Nat → Nat) (f : Nat → Int) (hn : 2 ≤ n ∧ n ≤ 12) (hk : k ≤ 6) (hg0 : ∀ j, j < k → g0 j = ((κ j : Nat) : Int)) (hκ : ∀ j, j < k → κ j ≤ 4) (hg1 : ∀ j, j < k → g1 j = ((ν j : Nat) : Int)) (hν : ∀ j, j < k → ν j ≤ 9) : zMv l yX4_layRound cX4_layRound 2 none ({ frames := 5, cells := 0, slots := 0, locals := 118 }) D cI [.ref h] [cM h b ((pm : Nat) : Int) ((n : Nat) : Int) ((k : Nat) : Int) ((d : Nat) : Int) ((rr : Nat) : Int) ((hd : Nat) : Int) ((sm : Nat) : Int) kr kq ku s0 s1 s2 s3 s4 s5 hs, cR cI (b 1) 6 g0, cR cI (b 2) 6 g1, cR cI (b 4) 12 f] (fun (u : (Int) × (Int) × (Int) × (Int) × (Nat → Int)) => (u.1 = ((fb_ct (fun j => lrB (rdc (mus n κ ν) k) n j) n : Nat) : Int)) ∧ (u.2.1 = ((mx (rl (rdc (mus n κ ν) k) n) n : Nat) : Int)) ∧ (u.2.2.1 = ((fb_ct (fun j => decide ((rdc (mus n κ ν) k) j = j)) n : Nat) : Int)) ∧ (u.2.2.2.1 = ((odN (rdc (mus n κ ν) k) n n : Nat) : Int)) ∧ (∀ j, j < n → u.2.2.2.2 j = ((rdc (mus n κ ν) k j : Nat) : Int))) (fun (u : (Int) × (Int) × (Int) × (Int) × (Nat → Int)) => [cM h b ((pm : Nat) : Int) ((n : Nat) : Int) ((k : Nat) : Int) ((d : Nat) : Int) ((rr : Nat) : Int) ((hd : Nat) : Int) ((sm : Nat) : Int) kr kq ku u.1 u.2.1 u.2.2.1 u.2.2.2.1 s4 s5 hs, cR cI (b 1) 6 g0, cR cI (b 2) 6 g1, cR cI (b 4) 12 u.2.2.2.2]) := by
  intro sz
  refine zstart rfl (by decide) (Nat.le_of_ble_eq_true rfl) ?_
  intro p e s m below meth c ls K hnm hsz hP hD hS hl
  generalize hargs : ([.ref h] : List Value).toArray = args at K ⊢
  generalize hQf : MQ below _ args s _ _ _ = Qf
  have K : zK p s m args meth c cX4_layRound 2 RX4 none D cI := K
  obtain ⟨hx, hb, hml, hown, hts, hE, -, -⟩ := id K
  have hA := zhA (ws0 := [cM h b ((pm : Nat) : Int) ((n : Nat) : Int) ((k : Nat) : Int) ((d : Nat) : Int) ((rr : Nat) : Int) ((hd : Nat) : Int) ((sm : Nat) : Int) kr kq ku s0 s1 s2 s3 s4 s5 hs, cR cI (b 1) 6 g0, cR cI (b 2) 6 g1, cR cI (b 4) 12 f]) hsz
  have hl : lv_has ls 2 [(0, .ref h)] := hl
  have hμ := mus_lt (k := k) hn.2 hκ hν
  have hμi := mus_inj (k := k) hn.2 hκ hν
  have hρ : ∀ j, j < n → rdc (mus n κ ν) k j < n := fun j hj => rdc_lt hμ (Nat.le_refl k) hj
  have hρi : inj (rdc (mus n κ ν) k) n := rdc_inj hμ hμi (Nat.le_refl k)
  refine lv_iconst (v := zI 0) hx hb dX4_layRound_0 rfl ?_
  refine lv_istore_n (lv' := [(1, .int (zI 0)), (0, .ref h)]) hx hb dX4_layRound_1 rfl hl (by decide) rfl (fun ls hl => ?_)
  have cut_2 : ∀ (N_2 : Nat), ∀ (i : Nat) (q : Nat → Int), n - i < N_2 → (i ≤ n) → (∀ j, j < i → q j = ((rdc (mus n κ ν) k j : Nat) : Int)) → ∀ (H : Heap) (locs : List Loc) (ls : Array Slot), va_P D cls [cM h b ((pm : Nat) : Int) ((n : Nat) : Int) ((k : Nat) : Int) ((d : Nat) : Int) ((rr : Nat) : Int) ((hd : Nat) : Int) ((sm : Nat) : Int) kr kq ku s0 s1 s2 s3 s4 s5 hs, cR cI (b 1) 6 g0, cR cI (b 2) 6 g1, cR cI (b 4) 12 q] H → va_D (va_A [cM h b ((pm : Nat) : Int) ((n : Nat) : Int) ((k : Nat) : Int) ((d : Nat) : Int) ((rr : Nat) : Int) ((hd : Nat) : Int) ((sm : Nat) : Int) kr kq ku s0 s1 s2 s3 s4 s5 hs, cR cI (b 1) 6 g0, cR cI (b 2) 6 g1, cR cI (b 4) 12 f] sz) [cM h b ((pm : Nat) : Int) ((n : Nat) : Int) ((k : Nat) : Int) ((d : Nat) : Int) ((rr : Nat) : Int) ((hd : Nat) : Int) ((sm : Nat) : Int) kr kq ku s0 s1 s2 s3 s4 s5 hs, cR cI (b 1) 6 g0, cR cI (b 2) 6 g1, cR cI (b 4) 12 q] → va_S (va_A [cM h b ((pm : Nat) : Int) ((n : Nat) : Int) ((k : Nat) : Int) ((d : Nat) : Int) ((rr : Nat) : Int) ((hd : Nat) : Int) ((sm : Nat) : Int) kr kq ku s0 s1 s2 s3 s4 s5 hs, cR cI (b 1) 6 g0, cR cI (b 2) 6 g1, cR cI (b 4) 12 f] sz) s.heap H locs → lv_has ls 2 [(0, .ref h), (1, .int (zI ((i : Nat) : Int)))] → W p l e ({ frames := 5, cells := 0, slots := 0, locals := 118 }) s m args below meth c H locs 0 0 Qf (F0 m 2 ls []) := by
    intro N_2
    induction N_2 with
    | zero => intro i q hm_2; exact absurd hm_2 (Nat.not_lt_zero _)
    | succ N_2 ih_2 =>
      intro i q hm_2 hi hq H locs ls hP hD hS hl
      refine lv_iload_n hx hb dX4_layRound_2 rfl (lv_at hl 1 rfl) ?_
      refine lv_aload_n hx hb dX4_layRound_3 rfl (lv_at hl 0 rfl) ?_
      refine va_get (D := D) (ci := 4) (v := .int (zI ((n : Nat) : Int))) (C := RX4) (T := TX4) (N := 32) hx hb hts inT_X4 hown hE.1 hP 0 rfl rfl 2 (by decide) (hts _ qf_X4_86) (fun _ h9 => h9) rfl dX4_layRound_4 ?_
      refine z_icmp_ge (tgt := 27) hx hb (by omega) dX4_layRound_7 (by decide) (fun c_7 => ?_) (fun c_7 => ?_)
      · refine lv_aload_n hx hb dX4_layRound_27 rfl (lv_at hl 0 rfl) ?_
        refine zcall_v (wc := [cM h b ((pm : Nat) : Int) ((n : Nat) : Int) ((k : Nat) : Int) ((d : Nat) : Int) ((rr : Nat) : Int) ((hd : Nat) : Int) ((sm : Nat) : Int) kr kq ku s0 s1 s2 s3 s4 s5 hs, cR cI (b 4) 12 q]) (wr := [cR cI (b 1) 6 g0, cR cI (b 2) 6 g1]) (rest := []) hE hP hD hS hA [0, 3] [1, 2] [2, 0, 1, 3] rfl rfl (by decide) (by decide) (by decide) (fun (u : (Int) × (Int) × (Int) × (Int)) => [cM h b ((pm : Nat) : Int) ((n : Nat) : Int) ((k : Nat) : Int) ((d : Nat) : Int) ((rr : Nat) : Int) ((hd : Nat) : Int) ((sm : Nat) : Int) kr kq ku u.1 u.2.1 u.2.2.1 u.2.2.2 s4 s5 hs, cR cI (b 1) 6 g0, cR cI (b 2) 6 g1, cR cI (b 4) 12 q]) (fun u => rfl) (fun hPc hDc => zrunV (As := []) (rest := []) (q0 := 0) (ci := 4) K k_X4_layRings qm_X4_152 ⟨⟨rfl, rfl⟩, ⟨Nat.le_of_ble_eq_true rfl, Nat.le_of_ble_eq_true rfl⟩⟩ rfl rfl hPc hDc (c_X4_layRings l D cI h b pm n k d rr hd sm kr kq ku s0 s1 s2 s3 s4 s5 hs q (rdc (mus n κ ν) k) (by first | assumption | omega) (fun j hj => hq j (by omega)) (by first | assumption | omega) (by first | assumption | omega) _) rfl hl.1 rfl (Nat.le_of_ble_eq_true rfl) dX4_layRound_28 ⟨Nat.zero_le _, Nat.zero_le _⟩) (by decide) (fun u H locs hpost hP hD hS => ?_)
        obtain ⟨t_1, t_2, t_3, t_4⟩ := u
        obtain ⟨h0_28, h1_28, h2_28, h3_28⟩ := hpost
        have h0_28 : t_1 = ((fb_ct (fun j => lrB ((rdc (mus n κ ν) k)) n j) n : Nat) : Int) := h0_28
        have h1_28 : t_2 = ((mx (rl ((rdc (mus n κ ν) k)) n) n : Nat) : Int) := h1_28
        have h2_28 : t_3 = ((fb_ct (fun j => decide (((rdc (mus n κ ν) k)) j = j)) n : Nat) : Int) := h2_28
        have h3_28 : t_4 = ((odN ((rdc (mus n κ ν) k)) n n : Nat) : Int) := h3_28
        have hP : va_P D cls [cM h b ((pm : Nat) : Int) ((n : Nat) : Int) ((k : Nat) : Int) ((d : Nat) : Int) ((rr : Nat) : Int) ((hd : Nat) : Int) ((sm : Nat) : Int) kr kq ku t_1 t_2 t_3 t_4 s4 s5 hs, cR cI (b 1) 6 g0, cR cI (b 2) 6 g1, cR cI (b 4) 12 q] H := hP
        have hD : va_D (va_A [cM h b ((pm : Nat) : Int) ((n : Nat) : Int) ((k : Nat) : Int) ((d : Nat) : Int) ((rr : Nat) : Int) ((hd : Nat) : Int) ((sm : Nat) : Int) kr kq ku s0 s1 s2 s3 s4 s5 hs, cR cI (b 1) 6 g0, cR cI (b 2) 6 g1, cR cI (b 4) 12 f] sz) [cM h b ((pm : Nat) : Int) ((n : Nat) : Int) ((k : Nat) : Int) ((d : Nat) : Int) ((rr : Nat) : Int) ((hd : Nat) : Int) ((sm : Nat) : Int) kr kq ku t_1 t_2 t_3 t_4 s4 s5 hs, cR cI (b 1) 6 g0, cR cI (b 2) 6 g1, cR cI (b 4) 12 q] := hD
        rw [← hQf]
        exact z_vret K hS (t_1, t_2, t_3, t_4, q) ⟨(by (try dsimp only); exact h0_28), (by (try dsimp only); exact h1_28), (by (try dsimp only); exact h2_28), (by (try dsimp only); exact h3_28), (by (try dsimp only); intro j hj; exact hq j (by omega))⟩ hP hD dX4_layRound_31
      · refine lv_aload_n hx hb dX4_layRound_10 rfl (lv_at hl 0 rfl) ?_
        refine va_get (D := D) (ci := 4) (v := .ref (b 4)) (C := RX4) (T := TX4) (N := 32) hx hb hts inT_X4 hown hE.1 hP 0 rfl rfl 9 (by decide) (hts _ qf_X4_22) (fun _ h9 => h9) rfl dX4_layRound_11 ?_
        refine lv_iload_n hx hb dX4_layRound_14 rfl (lv_at hl 1 rfl) ?_
        refine lv_aload_n hx hb dX4_layRound_15 rfl (lv_at hl 0 rfl) ?_
        refine lv_iload_n hx hb dX4_layRound_16 rfl (lv_at hl 1 rfl) ?_
        refine zcall_i (wc := [cM h b ((pm : Nat) : Int) ((n : Nat) : Int) ((k : Nat) : Int) ((d : Nat) : Int) ((rr : Nat) : Int) ((hd : Nat) : Int) ((sm : Nat) : Int) kr kq ku s0 s1 s2 s3 s4 s5 hs, cR cI (b 1) 6 g0, cR cI (b 2) 6 g1]) (wr := [cR cI (b 4) 12 q]) (rest := [.int (zI ((i : Nat) : Int)), .ref (b 4)]) hE hP hD hS hA [0, 1, 2] [3] [1, 2, 3, 0] rfl rfl (by decide) (by decide) (by decide) (fun (u : Unit) => [cM h b ((pm : Nat) : Int) ((n : Nat) : Int) ((k : Nat) : Int) ((d : Nat) : Int) ((rr : Nat) : Int) ((hd : Nat) : Int) ((sm : Nat) : Int) kr kq ku s0 s1 s2 s3 s4 s5 hs, cR cI (b 1) 6 g0, cR cI (b 2) 6 g1, cR cI (b 4) 12 q]) (fun u => rfl) (fun hPc hDc => zrunV (As := [.int (zI ((i : Nat) : Int))]) (rest := [.int (zI ((i : Nat) : Int)), .ref (b 4)]) (q0 := 0) (ci := 4) K k_X4_roundOf qm_X4_131 ⟨⟨rfl, rfl⟩, ⟨Nat.le_of_ble_eq_true rfl, Nat.le_of_ble_eq_true rfl⟩⟩ rfl rfl hPc hDc (c_X4_roundOf l D cI h b pm n k d rr hd sm kr kq ku s0 s1 s2 s3 s4 s5 hs g0 g1 κ ν i (by first | assumption | omega) (by first | assumption | omega) (by first | assumption | omega) (by first | assumption | omega) (by first | assumption | omega) (by first | assumption | omega) (by first | assumption | omega) _) rfl hl.1 rfl (Nat.le_of_ble_eq_true rfl) dX4_layRound_17 ⟨Nat.zero_le _, Nat.zero_le _⟩) (by decide) (fun z u H locs hpost hP hD hS => ?_)
        subst hpost
        have hP : va_P D cls [cM h b ((pm : Nat) : Int) ((n : Nat) : Int) ((k : Nat) : Int) ((d : Nat) : Int) ((rr : Nat) : Int) ((hd : Nat) : Int) ((sm : Nat) : Int) kr kq ku s0 s1 s2 s3 s4 s5 hs, cR cI (b 1) 6 g0, cR cI (b 2) 6 g1, cR cI (b 4) 12 q] H := hP
        have hD : va_D (va_A [cM h b ((pm : Nat) : Int) ((n : Nat) : Int) ((k : Nat) : Int) ((d : Nat) : Int) ((rr : Nat) : Int) ((hd : Nat) : Int) ((sm : Nat) : Int) kr kq ku s0 s1 s2 s3 s4 s5 hs, cR cI (b 1) 6 g0, cR cI (b 2) 6 g1, cR cI (b 4) 12 f] sz) [cM h b ((pm : Nat) : Int) ((n : Nat) : Int) ((k : Nat) : Int) ((d : Nat) : Int) ((rr : Nat) : Int) ((hd : Nat) : Int) ((sm : Nat) : Int) kr kq ku s0 s1 s2 s3 s4 s5 hs, cR cI (b 1) 6 g0, cR cI (b 2) 6 g1, cR cI (b 4) 12 q] := hD
        refine W.eq (g2 := F0 m 20 ls [.int (zI (((rdc (mus n κ ν) k i) : Nat) : Int)), .int (zI ((i : Nat) : Int)), .ref (b 4)]) rfl ?_
        refine z_iast hx hb hE hP hD hS 3 rfl i (by omega) (by omega) (by first | decide | omega) (zup q i (((rdc (mus n κ ν) k i) : Nat) : Int)) rfl dX4_layRound_20 (fun H locs hP hD hS => ?_)
        have hP : va_P D cls [cM h b ((pm : Nat) : Int) ((n : Nat) : Int) ((k : Nat) : Int) ((d : Nat) : Int) ((rr : Nat) : Int) ((hd : Nat) : Int) ((sm : Nat) : Int) kr kq ku s0 s1 s2 s3 s4 s5 hs, cR cI (b 1) 6 g0, cR cI (b 2) 6 g1, cR cI (b 4) 12 (zup q i (((rdc (mus n κ ν) k i) : Nat) : Int))] H := hP
        have hD : va_D (va_A [cM h b ((pm : Nat) : Int) ((n : Nat) : Int) ((k : Nat) : Int) ((d : Nat) : Int) ((rr : Nat) : Int) ((hd : Nat) : Int) ((sm : Nat) : Int) kr kq ku s0 s1 s2 s3 s4 s5 hs, cR cI (b 1) 6 g0, cR cI (b 2) 6 g1, cR cI (b 4) 12 f] sz) [cM h b ((pm : Nat) : Int) ((n : Nat) : Int) ((k : Nat) : Int) ((d : Nat) : Int) ((rr : Nat) : Int) ((hd : Nat) : Int) ((sm : Nat) : Int) kr kq ku s0 s1 s2 s3 s4 s5 hs, cR cI (b 1) 6 g0, cR cI (b 2) 6 g1, cR cI (b 4) 12 (zup q i (((rdc (mus n κ ν) k i) : Nat) : Int))] := hD
        refine z_iinc (k := 1) (lv' := [(1, .int (zI (((i + 1) : Nat) : Int))), (0, .ref h)]) hx hb (((i + 1) : Nat) : Int) (by omega) dX4_layRound_21 hl rfl (by decide) rfl (fun ls hl => ?_)
        refine lv_goto (tgt := 2) hx hb dX4_layRound_24 (by decide) ?_
        exact ih_2 (i + 1) (zup q i (((rdc (mus n κ ν) k i) : Nat) : Int)) (by omega) (by omega) (by exact zup_lt (A := fun j => ((rdc (mus n κ ν) k j : Nat) : Int)) hq rfl) _ _ _ hP hD hS (lv_sub hl [1, 0] rfl)
  exact cut_2 (n - 0 + 1) 0 f (Nat.lt_succ_self _) (by omega) (by intro j hj; omega) _ _ _ hP hD hS (lv_sub hl [1, 0] rfl)
set_option maxHeartbeats 4000000 in
set_option maxRecDepth 100000 in
theorem c_X4_ringsOf (l : Launch) (D : va_G) (cI : ClassId) (h : Nat) (b : Nat → Nat) (pm n k d rr hd sm : Nat) (kr kq ku s0 s1 s2 s3 s4 s5 hs : Int) (g0 g1 : Nat → Int) (κ ν : Nat → Nat) (f : Nat → Int) (w0 : Nat) (hn : 2 ≤ n ∧ n ≤ 12) (hk : k ≤ 6) (hg0 : ∀ j, j < k → g0 j = ((κ j : Nat) : Int)) (hκ : ∀ j, j < k → κ j ≤ 4) (hg1 : ∀ j, j < k → g1 j = ((ν j : Nat) : Int)) (hν : ∀ j, j < k → ν j ≤ 9) (hw0 : w0 < 4) : zMi l yX4_ringsOf cX4_ringsOf 2 (some .int) ({ frames := 6, cells := 0, slots := 0, locals := 139 }) D cI [.ref h, .int (zI ((w0 : Nat) : Int))] [cM h b ((pm : Nat) : Int) ((n : Nat) : Int) ((k : Nat) : Int) ((d : Nat) : Int) ((rr : Nat) : Int) ((hd : Nat) : Int) ((sm : Nat) : Int) kr kq ku s0 s1 s2 s3 s4 s5 hs, cR cI (b 1) 6 g0, cR cI (b 2) 6 g1, cR cI (b 4) 12 f] (fun (z : Int) (u : (Int) × (Int) × (Int) × (Int) × (Nat → Int)) => (z = (fRng n (rdc (mus n κ ν) k) w0)) ∧ (-2147483648 ≤ z ∧ z < 2147483648)) (fun (u : (Int) × (Int) × (Int) × (Int) × (Nat → Int)) => [cM h b ((pm : Nat) : Int) ((n : Nat) : Int) ((k : Nat) : Int) ((d : Nat) : Int) ((rr : Nat) : Int) ((hd : Nat) : Int) ((sm : Nat) : Int) kr kq ku u.1 u.2.1 u.2.2.1 u.2.2.2.1 s4 s5 hs, cR cI (b 1) 6 g0, cR cI (b 2) 6 g1, cR cI (b 4) 12 u.2.2.2.2]) := by
  intro sz
  refine zstart rfl (by decide) (Nat.le_of_ble_eq_true rfl) ?_
  intro p e s m below meth c ls K hnm hsz hP hD hS hl
  generalize hargs : ([.ref h, .int (zI ((w0 : Nat) : Int))] : List Value).toArray = args at K ⊢
  generalize hQf : MQ below _ args s _ _ _ = Qf
  have K : zK p s m args meth c cX4_ringsOf 2 RX4 (some .int) D cI := K
  obtain ⟨hx, hb, hml, hown, hts, hE, -, -⟩ := id K
  have hA := zhA (ws0 := [cM h b ((pm : Nat) : Int) ((n : Nat) : Int) ((k : Nat) : Int) ((d : Nat) : Int) ((rr : Nat) : Int) ((hd : Nat) : Int) ((sm : Nat) : Int) kr kq ku s0 s1 s2 s3 s4 s5 hs, cR cI (b 1) 6 g0, cR cI (b 2) 6 g1, cR cI (b 4) 12 f]) hsz
  have hl : lv_has ls 2 [(0, .ref h), (1, .int (zI ((w0 : Nat) : Int)))] := hl
  have hμ := mus_lt (k := k) hn.2 hκ hν
  have hμi := mus_inj (k := k) hn.2 hκ hν
  have hρ : ∀ j, j < n → rdc (mus n κ ν) k j < n := fun j hj => rdc_lt hμ (Nat.le_refl k) hj
  have hρi : inj (rdc (mus n κ ν) k) n := rdc_inj hμ hμi (Nat.le_refl k)
  have hod := od_le (φ := rdc (mus n κ ν) k) (n := n) (i := n) hn.2 (Nat.le_refl n)
  have hct := fb_ct_le (fun j => decide (rdc (mus n κ ν) k j = j)) n
  have hct2 := fb_ct_le (fun j => lrB (rdc (mus n κ ν) k) n j) n
  have hmx : mx (rl (rdc (mus n κ ν) k) n) n ≤ n := mx_le (fun i hi => rl_le hi)
  refine lv_aload_n hx hb dX4_ringsOf_0 rfl (lv_at hl 0 rfl) ?_
  refine zcall_v (wc := [cM h b ((pm : Nat) : Int) ((n : Nat) : Int) ((k : Nat) : Int) ((d : Nat) : Int) ((rr : Nat) : Int) ((hd : Nat) : Int) ((sm : Nat) : Int) kr kq ku s0 s1 s2 s3 s4 s5 hs, cR cI (b 1) 6 g0, cR cI (b 2) 6 g1, cR cI (b 4) 12 f]) (wr := []) (rest := []) hE hP hD hS hA [0, 1, 2, 3] [] [0, 1, 2, 3] rfl rfl (by decide) (by decide) (by decide) (fun (u : (Int) × (Int) × (Int) × (Int) × (Nat → Int)) => [cM h b ((pm : Nat) : Int) ((n : Nat) : Int) ((k : Nat) : Int) ((d : Nat) : Int) ((rr : Nat) : Int) ((hd : Nat) : Int) ((sm : Nat) : Int) kr kq ku u.1 u.2.1 u.2.2.1 u.2.2.2.1 s4 s5 hs, cR cI (b 1) 6 g0, cR cI (b 2) 6 g1, cR cI (b 4) 12 u.2.2.2.2]) (fun u => rfl) (fun hPc hDc => zrunV (As := []) (rest := []) (q0 := 0) (ci := 4) K k_X4_layRound qm_X4_155 ⟨⟨rfl, rfl⟩, ⟨Nat.le_of_ble_eq_true rfl, Nat.le_of_ble_eq_true rfl⟩⟩ rfl rfl hPc hDc (c_X4_layRound l D cI h b pm n k d rr hd sm kr kq ku s0 s1 s2 s3 s4 s5 hs g0 g1 κ ν f (by first | assumption | omega) (by first | assumption | omega) (by first | assumption | omega) (by first | assumption | omega) (by first | assumption | omega) (by first | assumption | omega) _) rfl hl.1 rfl (Nat.le_of_ble_eq_true rfl) dX4_ringsOf_1 ⟨Nat.zero_le _, Nat.zero_le _⟩) (by decide) (fun u H locs hpost hP hD hS => ?_)
  obtain ⟨t_1, t_2, t_3, t_4, f_5⟩ := u
  obtain ⟨h0_1, h1_1, h2_1, h3_1, hf2_1⟩ := hpost
  have h0_1 : t_1 = ((fb_ct (fun j => lrB (rdc (mus n κ ν) k) n j) n : Nat) : Int) := h0_1
  have h1_1 : t_2 = ((mx (rl (rdc (mus n κ ν) k) n) n : Nat) : Int) := h1_1
  have h2_1 : t_3 = ((fb_ct (fun j => decide ((rdc (mus n κ ν) k) j = j)) n : Nat) : Int) := h2_1
  have h3_1 : t_4 = ((odN (rdc (mus n κ ν) k) n n : Nat) : Int) := h3_1
  have hf2_1 : ∀ j, j < n → f_5 j = ((rdc (mus n κ ν) k j : Nat) : Int) := hf2_1
  have hP : va_P D cls [cM h b ((pm : Nat) : Int) ((n : Nat) : Int) ((k : Nat) : Int) ((d : Nat) : Int) ((rr : Nat) : Int) ((hd : Nat) : Int) ((sm : Nat) : Int) kr kq ku t_1 t_2 t_3 t_4 s4 s5 hs, cR cI (b 1) 6 g0, cR cI (b 2) 6 g1, cR cI (b 4) 12 f_5] H := hP
  have hD : va_D (va_A [cM h b ((pm : Nat) : Int) ((n : Nat) : Int) ((k : Nat) : Int) ((d : Nat) : Int) ((rr : Nat) : Int) ((hd : Nat) : Int) ((sm : Nat) : Int) kr kq ku s0 s1 s2 s3 s4 s5 hs, cR cI (b 1) 6 g0, cR cI (b 2) 6 g1, cR cI (b 4) 12 f] sz) [cM h b ((pm : Nat) : Int) ((n : Nat) : Int) ((k : Nat) : Int) ((d : Nat) : Int) ((rr : Nat) : Int) ((hd : Nat) : Int) ((sm : Nat) : Int) kr kq ku t_1 t_2 t_3 t_4 s4 s5 hs, cR cI (b 1) 6 g0, cR cI (b 2) 6 g1, cR cI (b 4) 12 f_5] := hD
  refine lv_iload_n hx hb dX4_ringsOf_4 rfl (lv_at hl 1 rfl) ?_
  refine z_if_ne (tgt := 15) hx hb (by omega) dX4_ringsOf_5 (by decide) (fun c_5 => ?_) (fun c_5 => ?_)
  · refine lv_iload_n hx hb dX4_ringsOf_15 rfl (lv_at hl 1 rfl) ?_
    refine lv_iconst (v := zI 1) hx hb dX4_ringsOf_16 rfl ?_
    refine z_icmp_ne (tgt := 27) hx hb (by omega) dX4_ringsOf_17 (by decide) (fun c_17 => ?_) (fun c_17 => ?_)
    · refine lv_iload_n hx hb dX4_ringsOf_27 rfl (lv_at hl 1 rfl) ?_
      refine lv_iconst (v := zI 2) hx hb dX4_ringsOf_28 rfl ?_
      refine z_icmp_ne (tgt := 39) hx hb (by omega) dX4_ringsOf_29 (by decide) (fun c_29 => ?_) (fun c_29 => ?_)
      · refine lv_aload_n hx hb dX4_ringsOf_39 rfl (lv_at hl 0 rfl) ?_
        refine va_get (D := D) (ci := 4) (v := .int (zI t_3)) (C := RX4) (T := TX4) (N := 32) hx hb hts inT_X4 hown hE.1 hP 0 rfl rfl 12 (by decide) (hts _ qf_X4_137) (fun _ h9 => h9) rfl dX4_ringsOf_40 ?_
        rw [← hQf]
        exact z_iret K hS (t_1, t_2, t_3, t_4, f_5) ⟨(by first | (rw [h3_1, show w0 = 0 by omega]; rfl) | (rw [h0_1, show w0 = 1 by omega]; rfl) | (rw [h1_1, show w0 = 2 by omega]; rfl) | (rw [h2_1, show w0 = 3 by omega]; rfl)), (by (try dsimp only); omega)⟩ hP hD dX4_ringsOf_43
      · refine lv_aload_n hx hb dX4_ringsOf_32 rfl (lv_at hl 0 rfl) ?_
        refine va_get (D := D) (ci := 4) (v := .int (zI t_2)) (C := RX4) (T := TX4) (N := 32) hx hb hts inT_X4 hown hE.1 hP 0 rfl rfl 11 (by decide) (hts _ qf_X4_134) (fun _ h9 => h9) rfl dX4_ringsOf_33 ?_
        refine lv_goto (tgt := 43) hx hb dX4_ringsOf_36 (by decide) ?_
        rw [← hQf]
        exact z_iret K hS (t_1, t_2, t_3, t_4, f_5) ⟨(by first | (rw [h3_1, show w0 = 0 by omega]; rfl) | (rw [h0_1, show w0 = 1 by omega]; rfl) | (rw [h1_1, show w0 = 2 by omega]; rfl) | (rw [h2_1, show w0 = 3 by omega]; rfl)), (by (try dsimp only); omega)⟩ hP hD dX4_ringsOf_43
    · refine lv_aload_n hx hb dX4_ringsOf_20 rfl (lv_at hl 0 rfl) ?_
      refine va_get (D := D) (ci := 4) (v := .int (zI t_1)) (C := RX4) (T := TX4) (N := 32) hx hb hts inT_X4 hown hE.1 hP 0 rfl rfl 10 (by decide) (hts _ qf_X4_149) (fun _ h9 => h9) rfl dX4_ringsOf_21 ?_
      refine lv_goto (tgt := 43) hx hb dX4_ringsOf_24 (by decide) ?_
      rw [← hQf]
      exact z_iret K hS (t_1, t_2, t_3, t_4, f_5) ⟨(by first | (rw [h3_1, show w0 = 0 by omega]; rfl) | (rw [h0_1, show w0 = 1 by omega]; rfl) | (rw [h1_1, show w0 = 2 by omega]; rfl) | (rw [h2_1, show w0 = 3 by omega]; rfl)), (by (try dsimp only); omega)⟩ hP hD dX4_ringsOf_43
  · refine lv_aload_n hx hb dX4_ringsOf_8 rfl (lv_at hl 0 rfl) ?_
    refine va_get (D := D) (ci := 4) (v := .int (zI t_4)) (C := RX4) (T := TX4) (N := 32) hx hb hts inT_X4 hown hE.1 hP 0 rfl rfl 13 (by decide) (hts _ qf_X4_140) (fun _ h9 => h9) rfl dX4_ringsOf_9 ?_
    refine lv_goto (tgt := 43) hx hb dX4_ringsOf_12 (by decide) ?_
    rw [← hQf]
    exact z_iret K hS (t_1, t_2, t_3, t_4, f_5) ⟨(by first | (rw [h3_1, show w0 = 0 by omega]; rfl) | (rw [h0_1, show w0 = 1 by omega]; rfl) | (rw [h1_1, show w0 = 2 by omega]; rfl) | (rw [h2_1, show w0 = 3 by omega]; rfl)), (by (try dsimp only); omega)⟩ hP hD dX4_ringsOf_43
set_option maxHeartbeats 4000000 in
set_option maxRecDepth 100000 in
theorem c_X4_afterOf (l : Launch) (D : va_G) (cI : ClassId) (h : Nat) (b : Nat → Nat) (pm n k d rr hd sm : Nat) (kr kq ku s0 s1 s2 s3 s4 s5 hs : Int) (g0 g1 : Nat → Int) (κ ν : Nat → Nat) (f : Nat → Int) (p0 x : Nat) (hn : 2 ≤ n ∧ n ≤ 12) (hk : k ≤ 6) (hg0 : ∀ j, j < k → g0 j = ((κ j : Nat) : Int)) (hκ : ∀ j, j < k → κ j ≤ 4) (hg1 : ∀ j, j < k → g1 j = ((ν j : Nat) : Int)) (hν : ∀ j, j < k → ν j ≤ 9) (hp0 : p0 < n) (hx0 : x < 2147483648) : zMi l yX4_afterOf cX4_afterOf 6 (some .int) ({ frames := 6, cells := 0, slots := 0, locals := 139 }) D cI [.ref h, .int (zI ((p0 : Nat) : Int)), .int (zI ((x : Nat) : Int))] [cM h b ((pm : Nat) : Int) ((n : Nat) : Int) ((k : Nat) : Int) ((d : Nat) : Int) ((rr : Nat) : Int) ((hd : Nat) : Int) ((sm : Nat) : Int) kr kq ku s0 s1 s2 s3 s4 s5 hs, cR cI (b 1) 6 g0, cR cI (b 2) 6 g1, cR cI (b 4) 12 f] (fun (z : Int) (u : (Int) × (Int) × (Int) × (Int) × (Nat → Int)) => z = (((it (rdc (mus n κ ν) k) (x % rl (rdc (mus n κ ν) k) n p0) p0) : Nat) : Int)) (fun (u : (Int) × (Int) × (Int) × (Int) × (Nat → Int)) => [cM h b ((pm : Nat) : Int) ((n : Nat) : Int) ((k : Nat) : Int) ((d : Nat) : Int) ((rr : Nat) : Int) ((hd : Nat) : Int) ((sm : Nat) : Int) kr kq ku u.1 u.2.1 u.2.2.1 u.2.2.2.1 s4 s5 hs, cR cI (b 1) 6 g0, cR cI (b 2) 6 g1, cR cI (b 4) 12 u.2.2.2.2]) := by
  intro sz
  refine zstart rfl (by decide) (Nat.le_of_ble_eq_true rfl) ?_
  intro p e s m below meth c ls K hnm hsz hP hD hS hl
  generalize hargs : ([.ref h, .int (zI ((p0 : Nat) : Int)), .int (zI ((x : Nat) : Int))] : List Value).toArray = args at K ⊢
  generalize hQf : MQ below _ args s _ _ _ = Qf
  have K : zK p s m args meth c cX4_afterOf 6 RX4 (some .int) D cI := K
  obtain ⟨hx, hb, hml, hown, hts, hE, -, -⟩ := id K
  have hA := zhA (ws0 := [cM h b ((pm : Nat) : Int) ((n : Nat) : Int) ((k : Nat) : Int) ((d : Nat) : Int) ((rr : Nat) : Int) ((hd : Nat) : Int) ((sm : Nat) : Int) kr kq ku s0 s1 s2 s3 s4 s5 hs, cR cI (b 1) 6 g0, cR cI (b 2) 6 g1, cR cI (b 4) 12 f]) hsz
  have hl : lv_has ls 6 [(0, .ref h), (1, .int (zI ((p0 : Nat) : Int))), (2, .int (zI ((x : Nat) : Int)))] := hl
  have hμ := mus_lt (k := k) hn.2 hκ hν
  have hμi := mus_inj (k := k) hn.2 hκ hν
  have hρ : ∀ j, j < n → rdc (mus n κ ν) k j < n := fun j hj => rdc_lt hμ (Nat.le_refl k) hj
  have hρi : inj (rdc (mus n κ ν) k) n := rdc_inj hμ hμi (Nat.le_refl k)
  have hr1 := rl_pos (rdc (mus n κ ν) k) n p0
  have hr2 := rl_le (φ := rdc (mus n κ ν) k) hp0
  have hr3 := Nat.mod_lt x (show 0 < rl (rdc (mus n κ ν) k) n p0 by omega)
  refine lv_aload_n hx hb dX4_afterOf_0 rfl (lv_at hl 0 rfl) ?_
  refine zcall_v (wc := [cM h b ((pm : Nat) : Int) ((n : Nat) : Int) ((k : Nat) : Int) ((d : Nat) : Int) ((rr : Nat) : Int) ((hd : Nat) : Int) ((sm : Nat) : Int) kr kq ku s0 s1 s2 s3 s4 s5 hs, cR cI (b 1) 6 g0, cR cI (b 2) 6 g1, cR cI (b 4) 12 f]) (wr := []) (rest := []) hE hP hD hS hA [0, 1, 2, 3] [] [0, 1, 2, 3] rfl rfl (by decide) (by decide) (by decide) (fun (u : (Int) × (Int) × (Int) × (Int) × (Nat → Int)) => [cM h b ((pm : Nat) : Int) ((n : Nat) : Int) ((k : Nat) : Int) ((d : Nat) : Int) ((rr : Nat) : Int) ((hd : Nat) : Int) ((sm : Nat) : Int) kr kq ku u.1 u.2.1 u.2.2.1 u.2.2.2.1 s4 s5 hs, cR cI (b 1) 6 g0, cR cI (b 2) 6 g1, cR cI (b 4) 12 u.2.2.2.2]) (fun u => rfl) (fun hPc hDc => zrunV (As := []) (rest := []) (q0 := 0) (ci := 4) K k_X4_layRound qm_X4_155 ⟨⟨rfl, rfl⟩, ⟨Nat.le_of_ble_eq_true rfl, Nat.le_of_ble_eq_true rfl⟩⟩ rfl rfl hPc hDc (c_X4_layRound l D cI h b pm n k d rr hd sm kr kq ku s0 s1 s2 s3 s4 s5 hs g0 g1 κ ν f (by first | assumption | omega) (by first | assumption | omega) (by first | assumption | omega) (by first | assumption | omega) (by first | assumption | omega) (by first | assumption | omega) _) rfl hl.1 rfl (Nat.le_of_ble_eq_true rfl) dX4_afterOf_1 ⟨Nat.zero_le _, Nat.zero_le _⟩) (by decide) (fun u H locs hpost hP hD hS => ?_)
  obtain ⟨t_1, t_2, t_3, t_4, f_5⟩ := u
  obtain ⟨h0_1, h1_1, h2_1, h3_1, hf2_1⟩ := hpost
  have h0_1 : t_1 = ((fb_ct (fun j => lrB (rdc (mus n κ ν) k) n j) n : Nat) : Int) := h0_1
  have h1_1 : t_2 = ((mx (rl (rdc (mus n κ ν) k) n) n : Nat) : Int) := h1_1
  have h2_1 : t_3 = ((fb_ct (fun j => decide ((rdc (mus n κ ν) k) j = j)) n : Nat) : Int) := h2_1
  have h3_1 : t_4 = ((odN (rdc (mus n κ ν) k) n n : Nat) : Int) := h3_1
  have hf2_1 : ∀ j, j < n → f_5 j = ((rdc (mus n κ ν) k j : Nat) : Int) := hf2_1
  have hP : va_P D cls [cM h b ((pm : Nat) : Int) ((n : Nat) : Int) ((k : Nat) : Int) ((d : Nat) : Int) ((rr : Nat) : Int) ((hd : Nat) : Int) ((sm : Nat) : Int) kr kq ku t_1 t_2 t_3 t_4 s4 s5 hs, cR cI (b 1) 6 g0, cR cI (b 2) 6 g1, cR cI (b 4) 12 f_5] H := hP
  have hD : va_D (va_A [cM h b ((pm : Nat) : Int) ((n : Nat) : Int) ((k : Nat) : Int) ((d : Nat) : Int) ((rr : Nat) : Int) ((hd : Nat) : Int) ((sm : Nat) : Int) kr kq ku s0 s1 s2 s3 s4 s5 hs, cR cI (b 1) 6 g0, cR cI (b 2) 6 g1, cR cI (b 4) 12 f] sz) [cM h b ((pm : Nat) : Int) ((n : Nat) : Int) ((k : Nat) : Int) ((d : Nat) : Int) ((rr : Nat) : Int) ((hd : Nat) : Int) ((sm : Nat) : Int) kr kq ku t_1 t_2 t_3 t_4 s4 s5 hs, cR cI (b 1) 6 g0, cR cI (b 2) 6 g1, cR cI (b 4) 12 f_5] := hD
  refine lv_iload_n hx hb dX4_afterOf_4 rfl (lv_at hl 2 rfl) ?_
  refine lv_aload_n hx hb dX4_afterOf_5 rfl (lv_at hl 0 rfl) ?_
  refine lv_iload_n hx hb dX4_afterOf_6 rfl (lv_at hl 1 rfl) ?_
  refine zcall_i (wc := [cM h b ((pm : Nat) : Int) ((n : Nat) : Int) ((k : Nat) : Int) ((d : Nat) : Int) ((rr : Nat) : Int) ((hd : Nat) : Int) ((sm : Nat) : Int) kr kq ku t_1 t_2 t_3 t_4 s4 s5 hs, cR cI (b 4) 12 f_5]) (wr := [cR cI (b 1) 6 g0, cR cI (b 2) 6 g1]) (rest := [.int (zI ((x : Nat) : Int))]) hE hP hD hS hA [0, 3] [1, 2] [2, 0, 1, 3] rfl rfl (by decide) (by decide) (by decide) (fun (u : Unit) => [cM h b ((pm : Nat) : Int) ((n : Nat) : Int) ((k : Nat) : Int) ((d : Nat) : Int) ((rr : Nat) : Int) ((hd : Nat) : Int) ((sm : Nat) : Int) kr kq ku t_1 t_2 t_3 t_4 s4 s5 hs, cR cI (b 1) 6 g0, cR cI (b 2) 6 g1, cR cI (b 4) 12 f_5]) (fun u => rfl) (fun hPc hDc => zrunV (As := [.int (zI ((p0 : Nat) : Int))]) (rest := [.int (zI ((x : Nat) : Int))]) (q0 := 0) (ci := 4) K k_X4_ringOf qm_X4_143 ⟨⟨rfl, rfl⟩, ⟨Nat.le_of_ble_eq_true rfl, Nat.le_of_ble_eq_true rfl⟩⟩ rfl rfl hPc hDc (c_X4_ringOf l D cI h b pm n k d rr hd sm kr kq ku t_1 t_2 t_3 t_4 s4 s5 hs f_5 (rdc (mus n κ ν) k) p0 (by first | assumption | omega) hf2_1 (by first | assumption | omega) (by first | assumption | omega) (by first | assumption | omega) _) rfl hl.1 rfl (Nat.le_of_ble_eq_true rfl) dX4_afterOf_7 ⟨Nat.zero_le _, Nat.zero_le _⟩) (by decide) (fun z u H locs hpost hP hD hS => ?_)
  subst hpost
  have hP : va_P D cls [cM h b ((pm : Nat) : Int) ((n : Nat) : Int) ((k : Nat) : Int) ((d : Nat) : Int) ((rr : Nat) : Int) ((hd : Nat) : Int) ((sm : Nat) : Int) kr kq ku t_1 t_2 t_3 t_4 s4 s5 hs, cR cI (b 1) 6 g0, cR cI (b 2) 6 g1, cR cI (b 4) 12 f_5] H := hP
  have hD : va_D (va_A [cM h b ((pm : Nat) : Int) ((n : Nat) : Int) ((k : Nat) : Int) ((d : Nat) : Int) ((rr : Nat) : Int) ((hd : Nat) : Int) ((sm : Nat) : Int) kr kq ku s0 s1 s2 s3 s4 s5 hs, cR cI (b 1) 6 g0, cR cI (b 2) 6 g1, cR cI (b 4) 12 f] sz) [cM h b ((pm : Nat) : Int) ((n : Nat) : Int) ((k : Nat) : Int) ((d : Nat) : Int) ((rr : Nat) : Int) ((hd : Nat) : Int) ((sm : Nat) : Int) kr kq ku t_1 t_2 t_3 t_4 s4 s5 hs, cR cI (b 1) 6 g0, cR cI (b 2) 6 g1, cR cI (b 4) 12 f_5] := hD
  refine W.eq (g2 := F0 m 10 ls [.int (zI (((rl (rdc (mus n κ ν) k) n p0) : Nat) : Int)), .int (zI ((x : Nat) : Int))]) rfl ?_
  refine z_irem hx hb (((x % (rl (rdc (mus n κ ν) k) n p0)) : Nat) : Int) (by omega) rfl dX4_afterOf_10 ?_
  refine lv_istore_n (lv' := [(3, .int (zI (((x % (rl (rdc (mus n κ ν) k) n p0)) : Nat) : Int))), (0, .ref h), (1, .int (zI ((p0 : Nat) : Int))), (2, .int (zI ((x : Nat) : Int)))]) hx hb dX4_afterOf_11 rfl hl (by decide) rfl (fun ls hl => ?_)
  refine lv_iload_n hx hb dX4_afterOf_12 rfl (lv_at hl 2 rfl) ?_
  refine lv_istore (lv' := [(4, .int (zI ((p0 : Nat) : Int))), (3, .int (zI (((x % (rl (rdc (mus n κ ν) k) n p0)) : Nat) : Int))), (0, .ref h), (1, .int (zI ((p0 : Nat) : Int))), (2, .int (zI ((x : Nat) : Int)))]) hx hb dX4_afterOf_13 hl (by decide) rfl (fun ls hl => ?_)
  refine lv_iconst (v := zI 0) hx hb dX4_afterOf_15 rfl ?_
  refine lv_istore (lv' := [(5, .int (zI 0)), (4, .int (zI ((p0 : Nat) : Int))), (3, .int (zI (((x % (rl (rdc (mus n κ ν) k) n p0)) : Nat) : Int))), (0, .ref h), (1, .int (zI ((p0 : Nat) : Int))), (2, .int (zI ((x : Nat) : Int)))]) hx hb dX4_afterOf_16 hl (by decide) rfl (fun ls hl => ?_)
  have cut_18 : ∀ (N_18 : Nat), ∀ (i r : Nat), x % rl (rdc (mus n κ ν) k) n p0 - i < N_18 → (i ≤ x % rl (rdc (mus n κ ν) k) n p0) → (r = it (rdc (mus n κ ν) k) i p0) → (r < n) → ∀ (H : Heap) (locs : List Loc) (ls : Array Slot), va_P D cls [cM h b ((pm : Nat) : Int) ((n : Nat) : Int) ((k : Nat) : Int) ((d : Nat) : Int) ((rr : Nat) : Int) ((hd : Nat) : Int) ((sm : Nat) : Int) kr kq ku t_1 t_2 t_3 t_4 s4 s5 hs, cR cI (b 1) 6 g0, cR cI (b 2) 6 g1, cR cI (b 4) 12 f_5] H → va_D (va_A [cM h b ((pm : Nat) : Int) ((n : Nat) : Int) ((k : Nat) : Int) ((d : Nat) : Int) ((rr : Nat) : Int) ((hd : Nat) : Int) ((sm : Nat) : Int) kr kq ku s0 s1 s2 s3 s4 s5 hs, cR cI (b 1) 6 g0, cR cI (b 2) 6 g1, cR cI (b 4) 12 f] sz) [cM h b ((pm : Nat) : Int) ((n : Nat) : Int) ((k : Nat) : Int) ((d : Nat) : Int) ((rr : Nat) : Int) ((hd : Nat) : Int) ((sm : Nat) : Int) kr kq ku t_1 t_2 t_3 t_4 s4 s5 hs, cR cI (b 1) 6 g0, cR cI (b 2) 6 g1, cR cI (b 4) 12 f_5] → va_S (va_A [cM h b ((pm : Nat) : Int) ((n : Nat) : Int) ((k : Nat) : Int) ((d : Nat) : Int) ((rr : Nat) : Int) ((hd : Nat) : Int) ((sm : Nat) : Int) kr kq ku s0 s1 s2 s3 s4 s5 hs, cR cI (b 1) 6 g0, cR cI (b 2) 6 g1, cR cI (b 4) 12 f] sz) s.heap H locs → lv_has ls 6 [(0, .ref h), (1, .int (zI ((p0 : Nat) : Int))), (2, .int (zI ((x : Nat) : Int))), (3, .int (zI (((x % (rl (rdc (mus n κ ν) k) n p0)) : Nat) : Int))), (4, .int (zI ((r : Nat) : Int))), (5, .int (zI ((i : Nat) : Int)))] → W p l e ({ frames := 6, cells := 0, slots := 0, locals := 139 }) s m args below meth c H locs 0 0 Qf (F0 m 18 ls []) := by
    intro N_18
    induction N_18 with
    | zero => intro i r hm_18; exact absurd hm_18 (Nat.not_lt_zero _)
    | succ N_18 ih_18 =>
      intro i r hm_18 hi hr4 hr5 H locs ls hP hD hS hl
      refine lv_iload hx hb dX4_afterOf_18 (lv_at hl 5 rfl) ?_
      refine lv_iload_n hx hb dX4_afterOf_20 rfl (lv_at hl 3 rfl) ?_
      refine z_icmp_ge (tgt := 39) hx hb (by omega) dX4_afterOf_21 (by decide) (fun c_21 => ?_) (fun c_21 => ?_)
      · refine lv_iload hx hb dX4_afterOf_39 (lv_at hl 4 rfl) ?_
        rw [← hQf]
        exact z_iret K hS (t_1, t_2, t_3, t_4, f_5) (by rw [hr4, show i = x % rl (rdc (mus n κ ν) k) n p0 by omega]) hP hD dX4_afterOf_41
      · refine lv_aload_n hx hb dX4_afterOf_24 rfl (lv_at hl 0 rfl) ?_
        refine va_get (D := D) (ci := 4) (v := .ref (b 4)) (C := RX4) (T := TX4) (N := 32) hx hb hts inT_X4 hown hE.1 hP 0 rfl rfl 9 (by decide) (hts _ qf_X4_22) (fun _ h9 => h9) rfl dX4_afterOf_25 ?_
        refine lv_iload hx hb dX4_afterOf_28 (lv_at hl 4 rfl) ?_
        have hρr := hρ r hr5
        refine z_iald hx hb hE hP 3 rfl r (by omega) (by omega) (by first | decide | omega) ((rdc (mus n κ ν) k r : Nat) : Int) (hf2_1 r hr5) dX4_afterOf_30 ?_
        refine lv_istore (lv' := [(4, .int (zI ((rdc (mus n κ ν) k r : Nat) : Int))), (0, .ref h), (1, .int (zI ((p0 : Nat) : Int))), (2, .int (zI ((x : Nat) : Int))), (3, .int (zI (((x % (rl (rdc (mus n κ ν) k) n p0)) : Nat) : Int))), (5, .int (zI ((i : Nat) : Int)))]) hx hb dX4_afterOf_31 hl (by decide) rfl (fun ls hl => ?_)
        refine z_iinc (k := 5) (lv' := [(5, .int (zI (((i + 1) : Nat) : Int))), (4, .int (zI ((rdc (mus n κ ν) k r : Nat) : Int))), (0, .ref h), (1, .int (zI ((p0 : Nat) : Int))), (2, .int (zI ((x : Nat) : Int))), (3, .int (zI (((x % (rl (rdc (mus n κ ν) k) n p0)) : Nat) : Int)))]) hx hb (((i + 1) : Nat) : Int) (by omega) dX4_afterOf_33 hl rfl (by decide) rfl (fun ls hl => ?_)
        refine lv_goto (tgt := 18) hx hb dX4_afterOf_36 (by decide) ?_
        exact ih_18 (i + 1) (rdc (mus n κ ν) k r) (by omega) (by omega) (by rw [hr4]; rfl) (by exact hρ r hr5) _ _ _ hP hD hS (lv_sub hl [2, 3, 4, 5, 1, 0] rfl)
  exact cut_18 (x % rl (rdc (mus n κ ν) k) n p0 - 0 + 1) 0 p0 (Nat.lt_succ_self _) (by omega) (by rfl) (by exact hp0) _ _ _ hP hD hS (lv_sub hl [3, 4, 5, 2, 1, 0] rfl)
set_option maxHeartbeats 4000000 in
set_option maxRecDepth 100000 in
theorem c_X4_ofStep (l : Launch) (D : va_G) (cI : ClassId) (h : Nat) (b : Nat → Nat) (pm n k d rr hd sm : Nat) (kr kq ku s0 s1 s2 s3 s4 s5 hs : Int) (g0 g1 : Nat → Int) (κ ν : Nat → Nat) (f : Nat → Int) (j0 w0 : Nat) (hn : 2 ≤ n ∧ n ≤ 12) (hk : k ≤ 6) (hg0 : ∀ j, j < k → g0 j = ((κ j : Nat) : Int)) (hκ : ∀ j, j < k → κ j ≤ 4) (hg1 : ∀ j, j < k → g1 j = ((ν j : Nat) : Int)) (hν : ∀ j, j < k → ν j ≤ 9) (hj0 : j0 < k) (hw0 : w0 = 2 ∨ w0 = 3) : zMi l yX4_ofStep cX4_ofStep 4 (some .int) ({ frames := 4, cells := 0, slots := 0, locals := 95 }) D cI [.ref h, .int (zI ((j0 : Nat) : Int)), .int (zI ((w0 : Nat) : Int))] [cM h b ((pm : Nat) : Int) ((n : Nat) : Int) ((k : Nat) : Int) ((d : Nat) : Int) ((rr : Nat) : Int) ((hd : Nat) : Int) ((sm : Nat) : Int) kr kq ku s0 s1 s2 s3 s4 s5 hs, cR cI (b 1) 6 g0, cR cI (b 2) 6 g1, cR cI (b 4) 12 f] (fun (z : Int) (u : (Int) × (Int) × (Int) × (Int) × (Nat → Int)) => z = (((if w0 = 2 then fb_ct (fun j => decide (mus n κ ν j0 j = j)) n else odN (mus n κ ν j0) n n) : Nat) : Int)) (fun (u : (Int) × (Int) × (Int) × (Int) × (Nat → Int)) => [cM h b ((pm : Nat) : Int) ((n : Nat) : Int) ((k : Nat) : Int) ((d : Nat) : Int) ((rr : Nat) : Int) ((hd : Nat) : Int) ((sm : Nat) : Int) kr kq ku u.1 u.2.1 u.2.2.1 u.2.2.2.1 s4 s5 hs, cR cI (b 1) 6 g0, cR cI (b 2) 6 g1, cR cI (b 4) 12 u.2.2.2.2]) := by
  intro sz
  refine zstart rfl (by decide) (Nat.le_of_ble_eq_true rfl) ?_
  intro p e s m below meth c ls K hnm hsz hP hD hS hl
  generalize hargs : ([.ref h, .int (zI ((j0 : Nat) : Int)), .int (zI ((w0 : Nat) : Int))] : List Value).toArray = args at K ⊢
  generalize hQf : MQ below _ args s _ _ _ = Qf
  have K : zK p s m args meth c cX4_ofStep 4 RX4 (some .int) D cI := K
  obtain ⟨hx, hb, hml, hown, hts, hE, -, -⟩ := id K
  have hA := zhA (ws0 := [cM h b ((pm : Nat) : Int) ((n : Nat) : Int) ((k : Nat) : Int) ((d : Nat) : Int) ((rr : Nat) : Int) ((hd : Nat) : Int) ((sm : Nat) : Int) kr kq ku s0 s1 s2 s3 s4 s5 hs, cR cI (b 1) 6 g0, cR cI (b 2) 6 g1, cR cI (b 4) 12 f]) hsz
  have hl : lv_has ls 4 [(0, .ref h), (1, .int (zI ((j0 : Nat) : Int))), (2, .int (zI ((w0 : Nat) : Int)))] := hl
  have hμ := mus_lt (k := k) hn.2 hκ hν
  have hμi := mus_inj (k := k) hn.2 hκ hν
  have hρ : ∀ j, j < n → rdc (mus n κ ν) k j < n := fun j hj => rdc_lt hμ (Nat.le_refl k) hj
  have hρi : inj (rdc (mus n κ ν) k) n := rdc_inj hμ hμi (Nat.le_refl k)
  refine lv_iconst (v := zI 0) hx hb dX4_ofStep_0 rfl ?_
  refine lv_istore_n (lv' := [(3, .int (zI 0)), (0, .ref h), (1, .int (zI ((j0 : Nat) : Int))), (2, .int (zI ((w0 : Nat) : Int)))]) hx hb dX4_ofStep_1 rfl hl (by decide) rfl (fun ls hl => ?_)
  have cut_2 : ∀ (N_2 : Nat), ∀ (i : Nat) (q : Nat → Int), n - i < N_2 → (i ≤ n) → (∀ j, j < i → q j = ((mus n κ ν j0 j : Nat) : Int)) → ∀ (H : Heap) (locs : List Loc) (ls : Array Slot), va_P D cls [cM h b ((pm : Nat) : Int) ((n : Nat) : Int) ((k : Nat) : Int) ((d : Nat) : Int) ((rr : Nat) : Int) ((hd : Nat) : Int) ((sm : Nat) : Int) kr kq ku s0 s1 s2 s3 s4 s5 hs, cR cI (b 1) 6 g0, cR cI (b 2) 6 g1, cR cI (b 4) 12 q] H → va_D (va_A [cM h b ((pm : Nat) : Int) ((n : Nat) : Int) ((k : Nat) : Int) ((d : Nat) : Int) ((rr : Nat) : Int) ((hd : Nat) : Int) ((sm : Nat) : Int) kr kq ku s0 s1 s2 s3 s4 s5 hs, cR cI (b 1) 6 g0, cR cI (b 2) 6 g1, cR cI (b 4) 12 f] sz) [cM h b ((pm : Nat) : Int) ((n : Nat) : Int) ((k : Nat) : Int) ((d : Nat) : Int) ((rr : Nat) : Int) ((hd : Nat) : Int) ((sm : Nat) : Int) kr kq ku s0 s1 s2 s3 s4 s5 hs, cR cI (b 1) 6 g0, cR cI (b 2) 6 g1, cR cI (b 4) 12 q] → va_S (va_A [cM h b ((pm : Nat) : Int) ((n : Nat) : Int) ((k : Nat) : Int) ((d : Nat) : Int) ((rr : Nat) : Int) ((hd : Nat) : Int) ((sm : Nat) : Int) kr kq ku s0 s1 s2 s3 s4 s5 hs, cR cI (b 1) 6 g0, cR cI (b 2) 6 g1, cR cI (b 4) 12 f] sz) s.heap H locs → lv_has ls 4 [(0, .ref h), (1, .int (zI ((j0 : Nat) : Int))), (2, .int (zI ((w0 : Nat) : Int))), (3, .int (zI ((i : Nat) : Int)))] → W p l e ({ frames := 4, cells := 0, slots := 0, locals := 95 }) s m args below meth c H locs 0 0 Qf (F0 m 2 ls []) := by
    intro N_2
    induction N_2 with
    | zero => intro i q hm_2; exact absurd hm_2 (Nat.not_lt_zero _)
    | succ N_2 ih_2 =>
      intro i q hm_2 hi hq H locs ls hP hD hS hl
      refine lv_iload_n hx hb dX4_ofStep_2 rfl (lv_at hl 3 rfl) ?_
      refine lv_aload_n hx hb dX4_ofStep_3 rfl (lv_at hl 0 rfl) ?_
      refine va_get (D := D) (ci := 4) (v := .int (zI ((n : Nat) : Int))) (C := RX4) (T := TX4) (N := 32) hx hb hts inT_X4 hown hE.1 hP 0 rfl rfl 2 (by decide) (hts _ qf_X4_86) (fun _ h9 => h9) rfl dX4_ofStep_4 ?_
      refine z_icmp_ge (tgt := 28) hx hb (by omega) dX4_ofStep_7 (by decide) (fun c_7 => ?_) (fun c_7 => ?_)
      · refine lv_aload_n hx hb dX4_ofStep_28 rfl (lv_at hl 0 rfl) ?_
        refine zcall_v (wc := [cM h b ((pm : Nat) : Int) ((n : Nat) : Int) ((k : Nat) : Int) ((d : Nat) : Int) ((rr : Nat) : Int) ((hd : Nat) : Int) ((sm : Nat) : Int) kr kq ku s0 s1 s2 s3 s4 s5 hs, cR cI (b 4) 12 q]) (wr := [cR cI (b 1) 6 g0, cR cI (b 2) 6 g1]) (rest := []) hE hP hD hS hA [0, 3] [1, 2] [2, 0, 1, 3] rfl rfl (by decide) (by decide) (by decide) (fun (u : (Int) × (Int) × (Int) × (Int)) => [cM h b ((pm : Nat) : Int) ((n : Nat) : Int) ((k : Nat) : Int) ((d : Nat) : Int) ((rr : Nat) : Int) ((hd : Nat) : Int) ((sm : Nat) : Int) kr kq ku u.1 u.2.1 u.2.2.1 u.2.2.2 s4 s5 hs, cR cI (b 1) 6 g0, cR cI (b 2) 6 g1, cR cI (b 4) 12 q]) (fun u => rfl) (fun hPc hDc => zrunV (As := []) (rest := []) (q0 := 0) (ci := 4) K k_X4_layRings qm_X4_152 ⟨⟨rfl, rfl⟩, ⟨Nat.le_of_ble_eq_true rfl, Nat.le_of_ble_eq_true rfl⟩⟩ rfl rfl hPc hDc (c_X4_layRings l D cI h b pm n k d rr hd sm kr kq ku s0 s1 s2 s3 s4 s5 hs q (mus n κ ν j0) (by first | assumption | omega) (fun j hj => hq j (by omega)) (fun j hj => hμ j0 j hj0 hj) (hμi j0 hj0) _) rfl hl.1 rfl (Nat.le_of_ble_eq_true rfl) dX4_ofStep_29 ⟨Nat.zero_le _, Nat.zero_le _⟩) (by decide) (fun u H locs hpost hP hD hS => ?_)
        obtain ⟨t_1, t_2, t_3, t_4⟩ := u
        obtain ⟨h0_29, h1_29, h2_29, h3_29⟩ := hpost
        have h0_29 : t_1 = ((fb_ct (fun j => lrB ((mus n κ ν j0)) n j) n : Nat) : Int) := h0_29
        have h1_29 : t_2 = ((mx (rl ((mus n κ ν j0)) n) n : Nat) : Int) := h1_29
        have h2_29 : t_3 = ((fb_ct (fun j => decide (((mus n κ ν j0)) j = j)) n : Nat) : Int) := h2_29
        have h3_29 : t_4 = ((odN ((mus n κ ν j0)) n n : Nat) : Int) := h3_29
        have hP : va_P D cls [cM h b ((pm : Nat) : Int) ((n : Nat) : Int) ((k : Nat) : Int) ((d : Nat) : Int) ((rr : Nat) : Int) ((hd : Nat) : Int) ((sm : Nat) : Int) kr kq ku t_1 t_2 t_3 t_4 s4 s5 hs, cR cI (b 1) 6 g0, cR cI (b 2) 6 g1, cR cI (b 4) 12 q] H := hP
        have hD : va_D (va_A [cM h b ((pm : Nat) : Int) ((n : Nat) : Int) ((k : Nat) : Int) ((d : Nat) : Int) ((rr : Nat) : Int) ((hd : Nat) : Int) ((sm : Nat) : Int) kr kq ku s0 s1 s2 s3 s4 s5 hs, cR cI (b 1) 6 g0, cR cI (b 2) 6 g1, cR cI (b 4) 12 f] sz) [cM h b ((pm : Nat) : Int) ((n : Nat) : Int) ((k : Nat) : Int) ((d : Nat) : Int) ((rr : Nat) : Int) ((hd : Nat) : Int) ((sm : Nat) : Int) kr kq ku t_1 t_2 t_3 t_4 s4 s5 hs, cR cI (b 1) 6 g0, cR cI (b 2) 6 g1, cR cI (b 4) 12 q] := hD
        refine lv_iload_n hx hb dX4_ofStep_32 rfl (lv_at hl 2 rfl) ?_
        refine lv_iconst (v := zI 2) hx hb dX4_ofStep_33 rfl ?_
        refine z_icmp_ne (tgt := 44) hx hb (by omega) dX4_ofStep_34 (by decide) (fun c_34 => ?_) (fun c_34 => ?_)
        · refine lv_aload_n hx hb dX4_ofStep_44 rfl (lv_at hl 0 rfl) ?_
          refine va_get (D := D) (ci := 4) (v := .int (zI t_4)) (C := RX4) (T := TX4) (N := 32) hx hb hts inT_X4 hown hE.1 hP 0 rfl rfl 13 (by decide) (hts _ qf_X4_140) (fun _ h9 => h9) rfl dX4_ofStep_45 ?_
          rw [← hQf]
          exact z_iret K hS (t_1, t_2, t_3, t_4, q) (by first | (rw [h2_29, if_pos (by omega)]; done) | (rw [h3_29, if_neg (by omega)])) hP hD dX4_ofStep_48
        · refine lv_aload_n hx hb dX4_ofStep_37 rfl (lv_at hl 0 rfl) ?_
          refine va_get (D := D) (ci := 4) (v := .int (zI t_3)) (C := RX4) (T := TX4) (N := 32) hx hb hts inT_X4 hown hE.1 hP 0 rfl rfl 12 (by decide) (hts _ qf_X4_137) (fun _ h9 => h9) rfl dX4_ofStep_38 ?_
          refine lv_goto (tgt := 48) hx hb dX4_ofStep_41 (by decide) ?_
          rw [← hQf]
          exact z_iret K hS (t_1, t_2, t_3, t_4, q) (by first | (rw [h2_29, if_pos (by omega)]; done) | (rw [h3_29, if_neg (by omega)])) hP hD dX4_ofStep_48
      · refine lv_aload_n hx hb dX4_ofStep_10 rfl (lv_at hl 0 rfl) ?_
        refine va_get (D := D) (ci := 4) (v := .ref (b 4)) (C := RX4) (T := TX4) (N := 32) hx hb hts inT_X4 hown hE.1 hP 0 rfl rfl 9 (by decide) (hts _ qf_X4_22) (fun _ h9 => h9) rfl dX4_ofStep_11 ?_
        refine lv_iload_n hx hb dX4_ofStep_14 rfl (lv_at hl 3 rfl) ?_
        refine lv_aload_n hx hb dX4_ofStep_15 rfl (lv_at hl 0 rfl) ?_
        refine lv_iload_n hx hb dX4_ofStep_16 rfl (lv_at hl 1 rfl) ?_
        refine lv_iload_n hx hb dX4_ofStep_17 rfl (lv_at hl 3 rfl) ?_
        refine zcall_i (wc := [cM h b ((pm : Nat) : Int) ((n : Nat) : Int) ((k : Nat) : Int) ((d : Nat) : Int) ((rr : Nat) : Int) ((hd : Nat) : Int) ((sm : Nat) : Int) kr kq ku s0 s1 s2 s3 s4 s5 hs, cR cI (b 1) 6 g0, cR cI (b 2) 6 g1]) (wr := [cR cI (b 4) 12 q]) (rest := [.int (zI ((i : Nat) : Int)), .ref (b 4)]) hE hP hD hS hA [0, 1, 2] [3] [1, 2, 3, 0] rfl rfl (by decide) (by decide) (by decide) (fun (u : Unit) => [cM h b ((pm : Nat) : Int) ((n : Nat) : Int) ((k : Nat) : Int) ((d : Nat) : Int) ((rr : Nat) : Int) ((hd : Nat) : Int) ((sm : Nat) : Int) kr kq ku s0 s1 s2 s3 s4 s5 hs, cR cI (b 1) 6 g0, cR cI (b 2) 6 g1, cR cI (b 4) 12 q]) (fun u => rfl) (fun hPc hDc => zrunV (As := [.int (zI ((j0 : Nat) : Int)), .int (zI ((i : Nat) : Int))]) (rest := [.int (zI ((i : Nat) : Int)), .ref (b 4)]) (q0 := 0) (ci := 4) K k_X4_goesOf qm_X4_128 ⟨⟨rfl, rfl⟩, ⟨Nat.le_of_ble_eq_true rfl, Nat.le_of_ble_eq_true rfl⟩⟩ rfl rfl hPc hDc (c_X4_goesOf l D cI h b pm n k d rr hd sm kr kq ku s0 s1 s2 s3 s4 s5 hs g0 g1 κ ν j0 i (by first | assumption | omega) (by first | assumption | omega) (by first | assumption | omega) (by first | assumption | omega) (by first | assumption | omega) (by first | assumption | omega) (by first | assumption | omega) (by first | assumption | omega) _) rfl hl.1 rfl (Nat.le_of_ble_eq_true rfl) dX4_ofStep_18 ⟨Nat.zero_le _, Nat.zero_le _⟩) (by decide) (fun z u H locs hpost hP hD hS => ?_)
        subst hpost
        have hP : va_P D cls [cM h b ((pm : Nat) : Int) ((n : Nat) : Int) ((k : Nat) : Int) ((d : Nat) : Int) ((rr : Nat) : Int) ((hd : Nat) : Int) ((sm : Nat) : Int) kr kq ku s0 s1 s2 s3 s4 s5 hs, cR cI (b 1) 6 g0, cR cI (b 2) 6 g1, cR cI (b 4) 12 q] H := hP
        have hD : va_D (va_A [cM h b ((pm : Nat) : Int) ((n : Nat) : Int) ((k : Nat) : Int) ((d : Nat) : Int) ((rr : Nat) : Int) ((hd : Nat) : Int) ((sm : Nat) : Int) kr kq ku s0 s1 s2 s3 s4 s5 hs, cR cI (b 1) 6 g0, cR cI (b 2) 6 g1, cR cI (b 4) 12 f] sz) [cM h b ((pm : Nat) : Int) ((n : Nat) : Int) ((k : Nat) : Int) ((d : Nat) : Int) ((rr : Nat) : Int) ((hd : Nat) : Int) ((sm : Nat) : Int) kr kq ku s0 s1 s2 s3 s4 s5 hs, cR cI (b 1) 6 g0, cR cI (b 2) 6 g1, cR cI (b 4) 12 q] := hD
        refine W.eq (g2 := F0 m 21 ls [.int (zI (((mus n κ ν j0 i) : Nat) : Int)), .int (zI ((i : Nat) : Int)), .ref (b 4)]) rfl ?_
        refine z_iast hx hb hE hP hD hS 3 rfl i (by omega) (by omega) (by first | decide | omega) (zup q i (((mus n κ ν j0 i) : Nat) : Int)) rfl dX4_ofStep_21 (fun H locs hP hD hS => ?_)
        have hP : va_P D cls [cM h b ((pm : Nat) : Int) ((n : Nat) : Int) ((k : Nat) : Int) ((d : Nat) : Int) ((rr : Nat) : Int) ((hd : Nat) : Int) ((sm : Nat) : Int) kr kq ku s0 s1 s2 s3 s4 s5 hs, cR cI (b 1) 6 g0, cR cI (b 2) 6 g1, cR cI (b 4) 12 (zup q i (((mus n κ ν j0 i) : Nat) : Int))] H := hP
        have hD : va_D (va_A [cM h b ((pm : Nat) : Int) ((n : Nat) : Int) ((k : Nat) : Int) ((d : Nat) : Int) ((rr : Nat) : Int) ((hd : Nat) : Int) ((sm : Nat) : Int) kr kq ku s0 s1 s2 s3 s4 s5 hs, cR cI (b 1) 6 g0, cR cI (b 2) 6 g1, cR cI (b 4) 12 f] sz) [cM h b ((pm : Nat) : Int) ((n : Nat) : Int) ((k : Nat) : Int) ((d : Nat) : Int) ((rr : Nat) : Int) ((hd : Nat) : Int) ((sm : Nat) : Int) kr kq ku s0 s1 s2 s3 s4 s5 hs, cR cI (b 1) 6 g0, cR cI (b 2) 6 g1, cR cI (b 4) 12 (zup q i (((mus n κ ν j0 i) : Nat) : Int))] := hD
        refine z_iinc (k := 3) (lv' := [(3, .int (zI (((i + 1) : Nat) : Int))), (0, .ref h), (1, .int (zI ((j0 : Nat) : Int))), (2, .int (zI ((w0 : Nat) : Int)))]) hx hb (((i + 1) : Nat) : Int) (by omega) dX4_ofStep_22 hl rfl (by decide) rfl (fun ls hl => ?_)
        refine lv_goto (tgt := 2) hx hb dX4_ofStep_25 (by decide) ?_
        exact ih_2 (i + 1) (zup q i (((mus n κ ν j0 i) : Nat) : Int)) (by omega) (by omega) (by exact zup_lt (A := fun j => ((mus n κ ν j0 j : Nat) : Int)) hq rfl) _ _ _ hP hD hS (lv_sub hl [1, 2, 3, 0] rfl)
  exact cut_2 (n - 0 + 1) 0 f (Nat.lt_succ_self _) (by omega) (by intro j hj; omega) _ _ _ hP hD hS (lv_sub hl [1, 2, 3, 0] rfl)
set_option maxHeartbeats 4000000 in
set_option maxRecDepth 100000 in
theorem c_X4_doThen (l : Launch) (D : va_G) (cI : ClassId) (h : Nat) (b : Nat → Nat) (pm n k d rr hd sm : Nat) (kr kq ku s0 s1 s2 s3 s4 s5 hs : Int) (g0 g1 : Nat → Int) (κ ν : Nat → Nat) (q5 q6 : Nat → Int) (π : Nat → Nat) (j0 : Nat) (hn : 2 ≤ n ∧ n ≤ 12) (hk : k ≤ 6) (hg0 : ∀ j, j < k → g0 j = ((κ j : Nat) : Int)) (hκ : ∀ j, j < k → κ j ≤ 4) (hg1 : ∀ j, j < k → g1 j = ((ν j : Nat) : Int)) (hν : ∀ j, j < k → ν j ≤ 9) (hj0 : j0 < k) (hq5 : ∀ j, j < n → q5 j = ((π j : Nat) : Int)) : zMv l yX4_doThen cX4_doThen 3 none ({ frames := 4, cells := 0, slots := 0, locals := 95 }) D cI [.ref h, .int (zI ((j0 : Nat) : Int))] [cM h b ((pm : Nat) : Int) ((n : Nat) : Int) ((k : Nat) : Int) ((d : Nat) : Int) ((rr : Nat) : Int) ((hd : Nat) : Int) ((sm : Nat) : Int) kr kq ku s0 s1 s2 s3 s4 s5 hs, cR cI (b 1) 6 g0, cR cI (b 2) 6 g1, cR cI (b 5) 12 q5, cR cI (b 6) 12 q6] (fun (u : (Nat → Int) × (Nat → Int)) => ∀ j, j < n → u.1 j = ((pa (mus n κ ν j0) n π j : Nat) : Int)) (fun (u : (Nat → Int) × (Nat → Int)) => [cM h b ((pm : Nat) : Int) ((n : Nat) : Int) ((k : Nat) : Int) ((d : Nat) : Int) ((rr : Nat) : Int) ((hd : Nat) : Int) ((sm : Nat) : Int) kr kq ku s0 s1 s2 s3 s4 s5 hs, cR cI (b 1) 6 g0, cR cI (b 2) 6 g1, cR cI (b 5) 12 u.1, cR cI (b 6) 12 u.2]) := by
  intro sz
  refine zstart rfl (by decide) (Nat.le_of_ble_eq_true rfl) ?_
  intro p e s m below meth c ls K hnm hsz hP hD hS hl
  generalize hargs : ([.ref h, .int (zI ((j0 : Nat) : Int))] : List Value).toArray = args at K ⊢
  generalize hQf : MQ below _ args s _ _ _ = Qf
  have K : zK p s m args meth c cX4_doThen 3 RX4 none D cI := K
  obtain ⟨hx, hb, hml, hown, hts, hE, -, -⟩ := id K
  have hA := zhA (ws0 := [cM h b ((pm : Nat) : Int) ((n : Nat) : Int) ((k : Nat) : Int) ((d : Nat) : Int) ((rr : Nat) : Int) ((hd : Nat) : Int) ((sm : Nat) : Int) kr kq ku s0 s1 s2 s3 s4 s5 hs, cR cI (b 1) 6 g0, cR cI (b 2) 6 g1, cR cI (b 5) 12 q5, cR cI (b 6) 12 q6]) hsz
  have hl : lv_has ls 3 [(0, .ref h), (1, .int (zI ((j0 : Nat) : Int)))] := hl
  have hμ := mus_lt (k := k) hn.2 hκ hν
  have hμi := mus_inj (k := k) hn.2 hκ hν
  have hρ : ∀ j, j < n → rdc (mus n κ ν) k j < n := fun j hj => rdc_lt hμ (Nat.le_refl k) hj
  have hρi : inj (rdc (mus n κ ν) k) n := rdc_inj hμ hμi (Nat.le_refl k)
  have hm1 : ∀ j, j < n → mus n κ ν j0 j < n := fun j hj => hμ j0 j hj0 hj
  have hm2 := hμi j0 hj0
  refine lv_aload_n hx hb dX4_doThen_0 rfl (lv_at hl 0 rfl) ?_
  refine va_get (D := D) (ci := 4) (v := .ref (b 5)) (C := RX4) (T := TX4) (N := 32) hx hb hts inT_X4 hown hE.1 hP 0 rfl rfl 14 (by decide) (hts _ qf_X4_25) (fun _ h9 => h9) rfl dX4_doThen_1 ?_
  refine lv_aload_n hx hb dX4_doThen_4 rfl (lv_at hl 0 rfl) ?_
  refine va_get (D := D) (ci := 4) (v := .ref (b 6)) (C := RX4) (T := TX4) (N := 32) hx hb hts inT_X4 hown hE.1 hP 0 rfl rfl 15 (by decide) (hts _ qf_X4_28) (fun _ h9 => h9) rfl dX4_doThen_5 ?_
  refine zcall_v (wc := [cR cI (b 5) 12 q5, cR cI (b 6) 12 q6]) (wr := [cM h b ((pm : Nat) : Int) ((n : Nat) : Int) ((k : Nat) : Int) ((d : Nat) : Int) ((rr : Nat) : Int) ((hd : Nat) : Int) ((sm : Nat) : Int) kr kq ku s0 s1 s2 s3 s4 s5 hs, cR cI (b 1) 6 g0, cR cI (b 2) 6 g1]) (rest := []) hE hP hD hS hA [3, 4] [0, 1, 2] [0, 1, 2, 3, 4] rfl rfl (by decide) (by decide) (by decide) (fun (u : Unit) => [cM h b ((pm : Nat) : Int) ((n : Nat) : Int) ((k : Nat) : Int) ((d : Nat) : Int) ((rr : Nat) : Int) ((hd : Nat) : Int) ((sm : Nat) : Int) kr kq ku s0 s1 s2 s3 s4 s5 hs, cR cI (b 1) 6 g0, cR cI (b 2) 6 g1, cR cI (b 5) 12 q5, cR cI (b 6) 12 (zcp q5 q6 12)]) (fun u => rfl) (fun hPc hDc => zrunS (As := [.ref (b 5), .ref (b 6)]) (rest := []) K k_X4_copy qm_X4_186 ⟨⟨rfl, rfl⟩, ⟨Nat.le_of_ble_eq_true rfl, Nat.le_of_ble_eq_true rfl⟩⟩ hPc hDc (c_X4_copy l D cI (b 5) (b 6) 12 12 q5 q6 (by first | assumption | omega) (by first | assumption | omega) _) rfl hl.1 rfl (Nat.le_of_ble_eq_true rfl) dX4_doThen_8 ⟨Nat.zero_le _, Nat.zero_le _⟩) (by decide) (fun u H locs hpost hP hD hS => ?_)
  have hP : va_P D cls [cM h b ((pm : Nat) : Int) ((n : Nat) : Int) ((k : Nat) : Int) ((d : Nat) : Int) ((rr : Nat) : Int) ((hd : Nat) : Int) ((sm : Nat) : Int) kr kq ku s0 s1 s2 s3 s4 s5 hs, cR cI (b 1) 6 g0, cR cI (b 2) 6 g1, cR cI (b 5) 12 q5, cR cI (b 6) 12 (zcp q5 q6 12)] H := hP
  have hD : va_D (va_A [cM h b ((pm : Nat) : Int) ((n : Nat) : Int) ((k : Nat) : Int) ((d : Nat) : Int) ((rr : Nat) : Int) ((hd : Nat) : Int) ((sm : Nat) : Int) kr kq ku s0 s1 s2 s3 s4 s5 hs, cR cI (b 1) 6 g0, cR cI (b 2) 6 g1, cR cI (b 5) 12 q5, cR cI (b 6) 12 q6] sz) [cM h b ((pm : Nat) : Int) ((n : Nat) : Int) ((k : Nat) : Int) ((d : Nat) : Int) ((rr : Nat) : Int) ((hd : Nat) : Int) ((sm : Nat) : Int) kr kq ku s0 s1 s2 s3 s4 s5 hs, cR cI (b 1) 6 g0, cR cI (b 2) 6 g1, cR cI (b 5) 12 q5, cR cI (b 6) 12 (zcp q5 q6 12)] := hD
  refine lv_iconst (v := zI 0) hx hb dX4_doThen_11 rfl ?_
  refine lv_istore_n (lv' := [(2, .int (zI 0)), (0, .ref h), (1, .int (zI ((j0 : Nat) : Int)))]) hx hb dX4_doThen_12 rfl hl (by decide) rfl (fun ls hl => ?_)
  have cut_13 : ∀ (N_13 : Nat), ∀ (i : Nat) (q : Nat → Int), n - i < N_13 → (i ≤ n) → (∀ j, j < i → q (mus n κ ν j0 j) = ((π j : Nat) : Int)) → ∀ (H : Heap) (locs : List Loc) (ls : Array Slot), va_P D cls [cM h b ((pm : Nat) : Int) ((n : Nat) : Int) ((k : Nat) : Int) ((d : Nat) : Int) ((rr : Nat) : Int) ((hd : Nat) : Int) ((sm : Nat) : Int) kr kq ku s0 s1 s2 s3 s4 s5 hs, cR cI (b 1) 6 g0, cR cI (b 2) 6 g1, cR cI (b 5) 12 q, cR cI (b 6) 12 (zcp q5 q6 12)] H → va_D (va_A [cM h b ((pm : Nat) : Int) ((n : Nat) : Int) ((k : Nat) : Int) ((d : Nat) : Int) ((rr : Nat) : Int) ((hd : Nat) : Int) ((sm : Nat) : Int) kr kq ku s0 s1 s2 s3 s4 s5 hs, cR cI (b 1) 6 g0, cR cI (b 2) 6 g1, cR cI (b 5) 12 q5, cR cI (b 6) 12 q6] sz) [cM h b ((pm : Nat) : Int) ((n : Nat) : Int) ((k : Nat) : Int) ((d : Nat) : Int) ((rr : Nat) : Int) ((hd : Nat) : Int) ((sm : Nat) : Int) kr kq ku s0 s1 s2 s3 s4 s5 hs, cR cI (b 1) 6 g0, cR cI (b 2) 6 g1, cR cI (b 5) 12 q, cR cI (b 6) 12 (zcp q5 q6 12)] → va_S (va_A [cM h b ((pm : Nat) : Int) ((n : Nat) : Int) ((k : Nat) : Int) ((d : Nat) : Int) ((rr : Nat) : Int) ((hd : Nat) : Int) ((sm : Nat) : Int) kr kq ku s0 s1 s2 s3 s4 s5 hs, cR cI (b 1) 6 g0, cR cI (b 2) 6 g1, cR cI (b 5) 12 q5, cR cI (b 6) 12 q6] sz) s.heap H locs → lv_has ls 3 [(0, .ref h), (1, .int (zI ((j0 : Nat) : Int))), (2, .int (zI ((i : Nat) : Int)))] → W p l e ({ frames := 4, cells := 0, slots := 0, locals := 95 }) s m args below meth c H locs 0 0 Qf (F0 m 13 ls []) := by
    intro N_13
    induction N_13 with
    | zero => intro i q hm_13; exact absurd hm_13 (Nat.not_lt_zero _)
    | succ N_13 ih_13 =>
      intro i q hm_13 hi hq H locs ls hP hD hS hl
      refine lv_iload_n hx hb dX4_doThen_13 rfl (lv_at hl 2 rfl) ?_
      refine lv_aload_n hx hb dX4_doThen_14 rfl (lv_at hl 0 rfl) ?_
      refine va_get (D := D) (ci := 4) (v := .int (zI ((n : Nat) : Int))) (C := RX4) (T := TX4) (N := 32) hx hb hts inT_X4 hown hE.1 hP 0 rfl rfl 2 (by decide) (hts _ qf_X4_86) (fun _ h9 => h9) rfl dX4_doThen_15 ?_
      refine z_icmp_ge (tgt := 44) hx hb (by omega) dX4_doThen_18 (by decide) (fun c_18 => ?_) (fun c_18 => ?_)
      · rw [← hQf]
        exact z_vret K hS (q, (zcp q5 q6 12)) (by (try dsimp only); exact pa_is hm1 hm2 (fun j hj => hq j (by omega))) hP hD dX4_doThen_44
      · refine lv_aload_n hx hb dX4_doThen_21 rfl (lv_at hl 0 rfl) ?_
        refine va_get (D := D) (ci := 4) (v := .ref (b 5)) (C := RX4) (T := TX4) (N := 32) hx hb hts inT_X4 hown hE.1 hP 0 rfl rfl 14 (by decide) (hts _ qf_X4_25) (fun _ h9 => h9) rfl dX4_doThen_22 ?_
        refine lv_aload_n hx hb dX4_doThen_25 rfl (lv_at hl 0 rfl) ?_
        refine lv_iload_n hx hb dX4_doThen_26 rfl (lv_at hl 1 rfl) ?_
        refine lv_iload_n hx hb dX4_doThen_27 rfl (lv_at hl 2 rfl) ?_
        have hmi := hm1 i (by omega)
        refine zcall_i (wc := [cM h b ((pm : Nat) : Int) ((n : Nat) : Int) ((k : Nat) : Int) ((d : Nat) : Int) ((rr : Nat) : Int) ((hd : Nat) : Int) ((sm : Nat) : Int) kr kq ku s0 s1 s2 s3 s4 s5 hs, cR cI (b 1) 6 g0, cR cI (b 2) 6 g1]) (wr := [cR cI (b 5) 12 q, cR cI (b 6) 12 (zcp q5 q6 12)]) (rest := [.ref (b 5)]) hE hP hD hS hA [0, 1, 2] [3, 4] [2, 3, 4, 0, 1] rfl rfl (by decide) (by decide) (by decide) (fun (u : Unit) => [cM h b ((pm : Nat) : Int) ((n : Nat) : Int) ((k : Nat) : Int) ((d : Nat) : Int) ((rr : Nat) : Int) ((hd : Nat) : Int) ((sm : Nat) : Int) kr kq ku s0 s1 s2 s3 s4 s5 hs, cR cI (b 1) 6 g0, cR cI (b 2) 6 g1, cR cI (b 5) 12 q, cR cI (b 6) 12 (zcp q5 q6 12)]) (fun u => rfl) (fun hPc hDc => zrunV (As := [.int (zI ((j0 : Nat) : Int)), .int (zI ((i : Nat) : Int))]) (rest := [.ref (b 5)]) (q0 := 0) (ci := 4) K k_X4_goesOf qm_X4_128 ⟨⟨rfl, rfl⟩, ⟨Nat.le_of_ble_eq_true rfl, Nat.le_of_ble_eq_true rfl⟩⟩ rfl rfl hPc hDc (c_X4_goesOf l D cI h b pm n k d rr hd sm kr kq ku s0 s1 s2 s3 s4 s5 hs g0 g1 κ ν j0 i (by first | assumption | omega) (by first | assumption | omega) (by first | assumption | omega) (by first | assumption | omega) (by first | assumption | omega) (by first | assumption | omega) (by first | assumption | omega) (by first | assumption | omega) _) rfl hl.1 rfl (Nat.le_of_ble_eq_true rfl) dX4_doThen_28 ⟨Nat.zero_le _, Nat.zero_le _⟩) (by decide) (fun z u H locs hpost hP hD hS => ?_)
        subst hpost
        have hP : va_P D cls [cM h b ((pm : Nat) : Int) ((n : Nat) : Int) ((k : Nat) : Int) ((d : Nat) : Int) ((rr : Nat) : Int) ((hd : Nat) : Int) ((sm : Nat) : Int) kr kq ku s0 s1 s2 s3 s4 s5 hs, cR cI (b 1) 6 g0, cR cI (b 2) 6 g1, cR cI (b 5) 12 q, cR cI (b 6) 12 (zcp q5 q6 12)] H := hP
        have hD : va_D (va_A [cM h b ((pm : Nat) : Int) ((n : Nat) : Int) ((k : Nat) : Int) ((d : Nat) : Int) ((rr : Nat) : Int) ((hd : Nat) : Int) ((sm : Nat) : Int) kr kq ku s0 s1 s2 s3 s4 s5 hs, cR cI (b 1) 6 g0, cR cI (b 2) 6 g1, cR cI (b 5) 12 q5, cR cI (b 6) 12 q6] sz) [cM h b ((pm : Nat) : Int) ((n : Nat) : Int) ((k : Nat) : Int) ((d : Nat) : Int) ((rr : Nat) : Int) ((hd : Nat) : Int) ((sm : Nat) : Int) kr kq ku s0 s1 s2 s3 s4 s5 hs, cR cI (b 1) 6 g0, cR cI (b 2) 6 g1, cR cI (b 5) 12 q, cR cI (b 6) 12 (zcp q5 q6 12)] := hD
        refine W.eq (g2 := F0 m 31 ls [.int (zI (((mus n κ ν j0 i) : Nat) : Int)), .ref (b 5)]) rfl ?_
        refine lv_aload_n hx hb dX4_doThen_31 rfl (lv_at hl 0 rfl) ?_
        refine va_get (D := D) (ci := 4) (v := .ref (b 6)) (C := RX4) (T := TX4) (N := 32) hx hb hts inT_X4 hown hE.1 hP 0 rfl rfl 15 (by decide) (hts _ qf_X4_28) (fun _ h9 => h9) rfl dX4_doThen_32 ?_
        refine lv_iload_n hx hb dX4_doThen_35 rfl (lv_at hl 2 rfl) ?_
        refine z_iald hx hb hE hP 4 rfl i (by omega) (by omega) (by first | decide | omega) ((π i : Nat) : Int) ((zcp_lt (by omega)).trans (hq5 i (by omega))) dX4_doThen_36 ?_
        refine z_iast hx hb hE hP hD hS 3 rfl (mus n κ ν j0 i) (by omega) (by omega) (by first | decide | omega) (zup q (mus n κ ν j0 i) ((π i : Nat) : Int)) rfl dX4_doThen_37 (fun H locs hP hD hS => ?_)
        have hP : va_P D cls [cM h b ((pm : Nat) : Int) ((n : Nat) : Int) ((k : Nat) : Int) ((d : Nat) : Int) ((rr : Nat) : Int) ((hd : Nat) : Int) ((sm : Nat) : Int) kr kq ku s0 s1 s2 s3 s4 s5 hs, cR cI (b 1) 6 g0, cR cI (b 2) 6 g1, cR cI (b 5) 12 (zup q (mus n κ ν j0 i) ((π i : Nat) : Int)), cR cI (b 6) 12 (zcp q5 q6 12)] H := hP
        have hD : va_D (va_A [cM h b ((pm : Nat) : Int) ((n : Nat) : Int) ((k : Nat) : Int) ((d : Nat) : Int) ((rr : Nat) : Int) ((hd : Nat) : Int) ((sm : Nat) : Int) kr kq ku s0 s1 s2 s3 s4 s5 hs, cR cI (b 1) 6 g0, cR cI (b 2) 6 g1, cR cI (b 5) 12 q5, cR cI (b 6) 12 q6] sz) [cM h b ((pm : Nat) : Int) ((n : Nat) : Int) ((k : Nat) : Int) ((d : Nat) : Int) ((rr : Nat) : Int) ((hd : Nat) : Int) ((sm : Nat) : Int) kr kq ku s0 s1 s2 s3 s4 s5 hs, cR cI (b 1) 6 g0, cR cI (b 2) 6 g1, cR cI (b 5) 12 (zup q (mus n κ ν j0 i) ((π i : Nat) : Int)), cR cI (b 6) 12 (zcp q5 q6 12)] := hD
        refine z_iinc (k := 2) (lv' := [(2, .int (zI (((i + 1) : Nat) : Int))), (0, .ref h), (1, .int (zI ((j0 : Nat) : Int)))]) hx hb (((i + 1) : Nat) : Int) (by omega) dX4_doThen_38 hl rfl (by decide) rfl (fun ls hl => ?_)
        refine lv_goto (tgt := 13) hx hb dX4_doThen_41 (by decide) ?_
        exact ih_13 (i + 1) (zup q (mus n κ ν j0 i) ((π i : Nat) : Int)) (by omega) (by omega) (by intro j hj; rcases Nat.lt_or_ge j i with h1 | h1; rw [zup_n (hm2 j i h1 (by omega))]; exact hq j h1; rw [show j = i by omega]; exact zup_s _ _ _) _ _ _ hP hD hS (lv_sub hl [1, 2, 0] rfl)
  exact cut_13 (n - 0 + 1) 0 q5 (Nat.lt_succ_self _) (by omega) (by intro j hj; omega) _ _ _ hP hD hS (lv_sub hl [1, 2, 0] rfl)
set_option maxHeartbeats 4000000 in
set_option maxRecDepth 100000 in
theorem c_X4_homely (l : Launch) (D : va_G) (cI : ClassId) (h : Nat) (b : Nat → Nat) (pm n k d rr hd sm : Nat) (kr kq ku s0 s1 s2 s3 s4 s5 hs : Int) (qa : Nat) (g : Nat → Int) (π : Nat → Nat) (hn : n ≤ 12) (hg : ∀ j, j < n → g j = ((π j : Nat) : Int)) (hπ : ∀ j, j < n → π j < n) : zMi l yX4_homely cX4_homely 4 (some .int) ({ frames := 0, cells := 0, slots := 0, locals := 0 }) D cI [.ref h, .ref qa] [cM h b ((pm : Nat) : Int) ((n : Nat) : Int) ((k : Nat) : Int) ((d : Nat) : Int) ((rr : Nat) : Int) ((hd : Nat) : Int) ((sm : Nat) : Int) kr kq ku s0 s1 s2 s3 s4 s5 hs, cR cI qa 12 g] (fun (z : Int) (u : Unit) => z = (((fb_ct (fun j => decide (π j = j)) n) : Nat) : Int)) (fun (u : Unit) => [cM h b ((pm : Nat) : Int) ((n : Nat) : Int) ((k : Nat) : Int) ((d : Nat) : Int) ((rr : Nat) : Int) ((hd : Nat) : Int) ((sm : Nat) : Int) kr kq ku s0 s1 s2 s3 s4 s5 hs, cR cI qa 12 g]) := by
  intro sz
  refine zstart rfl (by decide) (Nat.le_of_ble_eq_true rfl) ?_
  intro p e s m below meth c ls K hnm hsz hP hD hS hl
  generalize hargs : ([.ref h, .ref qa] : List Value).toArray = args at K ⊢
  generalize hQf : MQ below _ args s _ _ _ = Qf
  have K : zK p s m args meth c cX4_homely 4 RX4 (some .int) D cI := K
  obtain ⟨hx, hb, hml, hown, hts, hE, -, -⟩ := id K
  have hA := zhA (ws0 := [cM h b ((pm : Nat) : Int) ((n : Nat) : Int) ((k : Nat) : Int) ((d : Nat) : Int) ((rr : Nat) : Int) ((hd : Nat) : Int) ((sm : Nat) : Int) kr kq ku s0 s1 s2 s3 s4 s5 hs, cR cI qa 12 g]) hsz
  have hl : lv_has ls 4 [(0, .ref h), (1, .ref qa)] := hl
  refine lv_iconst (v := zI 0) hx hb dX4_homely_0 rfl ?_
  refine lv_istore_n (lv' := [(2, .int (zI 0)), (0, .ref h), (1, .ref qa)]) hx hb dX4_homely_1 rfl hl (by decide) rfl (fun ls hl => ?_)
  refine lv_iconst (v := zI 0) hx hb dX4_homely_2 rfl ?_
  refine lv_istore_n (lv' := [(3, .int (zI 0)), (2, .int (zI 0)), (0, .ref h), (1, .ref qa)]) hx hb dX4_homely_3 rfl hl (by decide) rfl (fun ls hl => ?_)
  have cut_4 : ∀ (N_4 : Nat), ∀ (i y : Nat), n - i < N_4 → (i ≤ n) → (y = fb_ct (fun j => decide (π j = j)) i) → ∀ (H : Heap) (locs : List Loc) (ls : Array Slot), va_P D cls [cM h b ((pm : Nat) : Int) ((n : Nat) : Int) ((k : Nat) : Int) ((d : Nat) : Int) ((rr : Nat) : Int) ((hd : Nat) : Int) ((sm : Nat) : Int) kr kq ku s0 s1 s2 s3 s4 s5 hs, cR cI qa 12 g] H → va_D (va_A [cM h b ((pm : Nat) : Int) ((n : Nat) : Int) ((k : Nat) : Int) ((d : Nat) : Int) ((rr : Nat) : Int) ((hd : Nat) : Int) ((sm : Nat) : Int) kr kq ku s0 s1 s2 s3 s4 s5 hs, cR cI qa 12 g] sz) [cM h b ((pm : Nat) : Int) ((n : Nat) : Int) ((k : Nat) : Int) ((d : Nat) : Int) ((rr : Nat) : Int) ((hd : Nat) : Int) ((sm : Nat) : Int) kr kq ku s0 s1 s2 s3 s4 s5 hs, cR cI qa 12 g] → va_S (va_A [cM h b ((pm : Nat) : Int) ((n : Nat) : Int) ((k : Nat) : Int) ((d : Nat) : Int) ((rr : Nat) : Int) ((hd : Nat) : Int) ((sm : Nat) : Int) kr kq ku s0 s1 s2 s3 s4 s5 hs, cR cI qa 12 g] sz) s.heap H locs → lv_has ls 4 [(0, .ref h), (1, .ref qa), (2, .int (zI ((y : Nat) : Int))), (3, .int (zI ((i : Nat) : Int)))] → W p l e ({ frames := 0, cells := 0, slots := 0, locals := 0 }) s m args below meth c H locs 0 0 Qf (F0 m 4 ls []) := by
    intro N_4
    induction N_4 with
    | zero => intro i y hm_4; exact absurd hm_4 (Nat.not_lt_zero _)
    | succ N_4 ih_4 =>
      intro i y hm_4 hi hy H locs ls hP hD hS hl
      refine lv_iload_n hx hb dX4_homely_4 rfl (lv_at hl 3 rfl) ?_
      refine lv_aload_n hx hb dX4_homely_5 rfl (lv_at hl 0 rfl) ?_
      refine va_get (D := D) (ci := 4) (v := .int (zI ((n : Nat) : Int))) (C := RX4) (T := TX4) (N := 32) hx hb hts inT_X4 hown hE.1 hP 0 rfl rfl 2 (by decide) (hts _ qf_X4_86) (fun _ h9 => h9) rfl dX4_homely_6 ?_
      refine z_icmp_ge (tgt := 33) hx hb (by omega) dX4_homely_9 (by decide) (fun c_9 => ?_) (fun c_9 => ?_)
      · refine lv_iload_n hx hb dX4_homely_33 rfl (lv_at hl 2 rfl) ?_
        rw [← hQf]
        exact z_iret K hS () (by rw [hy, show i = n by omega]) hP hD dX4_homely_34
      · refine lv_iload_n hx hb dX4_homely_12 rfl (lv_at hl 2 rfl) ?_
        refine lv_aload_n hx hb dX4_homely_13 rfl (lv_at hl 1 rfl) ?_
        refine lv_iload_n hx hb dX4_homely_14 rfl (lv_at hl 3 rfl) ?_
        have hπi := hπ i (by omega)
        refine z_iald hx hb hE hP 1 rfl i (by omega) (by omega) (by first | decide | omega) ((π i : Nat) : Int) (hg i (by omega)) dX4_homely_15 ?_
        refine lv_iload_n hx hb dX4_homely_16 rfl (lv_at hl 3 rfl) ?_
        refine z_icmp_ne (tgt := 24) hx hb (by omega) dX4_homely_17 (by decide) (fun c_17 => ?_) (fun c_17 => ?_)
        · have hy2 : y = fb_ct (fun j => decide (π j = j)) (i + 1) := by rw [ct_f (by simp; omega)]; exact hy
          refine lv_iconst (v := zI 0) hx hb dX4_homely_24 rfl ?_
          refine z_iadd hx hb ((y : Nat) : Int) (by omega) dX4_homely_25 ?_
          refine lv_istore_n (lv' := [(2, .int (zI ((y : Nat) : Int))), (0, .ref h), (1, .ref qa), (3, .int (zI ((i : Nat) : Int)))]) hx hb dX4_homely_26 rfl hl (by decide) rfl (fun ls hl => ?_)
          refine z_iinc (k := 3) (lv' := [(3, .int (zI (((i + 1) : Nat) : Int))), (2, .int (zI ((y : Nat) : Int))), (0, .ref h), (1, .ref qa)]) hx hb (((i + 1) : Nat) : Int) (by omega) dX4_homely_27 hl rfl (by decide) rfl (fun ls hl => ?_)
          refine lv_goto (tgt := 4) hx hb dX4_homely_30 (by decide) ?_
          exact ih_4 (i + 1) y (by omega) (by omega) (by first | exact hy1 | exact hy2) _ _ _ hP hD hS (lv_sub hl [2, 3, 1, 0] rfl)
        · have hy1 : y + 1 = fb_ct (fun j => decide (π j = j)) (i + 1) := by rw [ct_t (by simp; omega)]; omega
          refine lv_iconst (v := zI 1) hx hb dX4_homely_20 rfl ?_
          refine lv_goto (tgt := 25) hx hb dX4_homely_21 (by decide) ?_
          refine z_iadd hx hb (((y + 1) : Nat) : Int) (by omega) dX4_homely_25 ?_
          refine lv_istore_n (lv' := [(2, .int (zI (((y + 1) : Nat) : Int))), (0, .ref h), (1, .ref qa), (3, .int (zI ((i : Nat) : Int)))]) hx hb dX4_homely_26 rfl hl (by decide) rfl (fun ls hl => ?_)
          refine z_iinc (k := 3) (lv' := [(3, .int (zI (((i + 1) : Nat) : Int))), (2, .int (zI (((y + 1) : Nat) : Int))), (0, .ref h), (1, .ref qa)]) hx hb (((i + 1) : Nat) : Int) (by omega) dX4_homely_27 hl rfl (by decide) rfl (fun ls hl => ?_)
          refine lv_goto (tgt := 4) hx hb dX4_homely_30 (by decide) ?_
          exact ih_4 (i + 1) (y + 1) (by omega) (by omega) (by first | exact hy1 | exact hy2) _ _ _ hP hD hS (lv_sub hl [2, 3, 1, 0] rfl)
  exact cut_4 (n - 0 + 1) 0 0 (Nat.lt_succ_self _) (by omega) (by rfl) _ _ _ hP hD hS (lv_sub hl [2, 3, 1, 0] rfl)
set_option maxHeartbeats 4000000 in
set_option maxRecDepth 100000 in
theorem c_X4_placeOf (l : Launch) (D : va_G) (cI : ClassId) (h : Nat) (b : Nat → Nat) (pm n k d rr hd sm : Nat) (kr kq ku s0 s1 s2 s3 s4 s5 hs : Int) (g3 : Nat → Int) (π : Nat → Nat) (x : Nat) (hn : n ≤ 12) (hg3 : ∀ j, j < n → g3 j = ((π j : Nat) : Int)) (hπ : ∀ j, j < n → π j < n) (hπi : inj π n) (hx0 : x < n) : zMi l yX4_placeOf cX4_placeOf 3 (some .int) ({ frames := 0, cells := 0, slots := 0, locals := 0 }) D cI [.ref h, .int (zI ((x : Nat) : Int))] [cM h b ((pm : Nat) : Int) ((n : Nat) : Int) ((k : Nat) : Int) ((d : Nat) : Int) ((rr : Nat) : Int) ((hd : Nat) : Int) ((sm : Nat) : Int) kr kq ku s0 s1 s2 s3 s4 s5 hs, cR cI (b 3) 12 g3] (fun (z : Int) (u : Unit) => z = (((plo π n x) : Nat) : Int)) (fun (u : Unit) => [cM h b ((pm : Nat) : Int) ((n : Nat) : Int) ((k : Nat) : Int) ((d : Nat) : Int) ((rr : Nat) : Int) ((hd : Nat) : Int) ((sm : Nat) : Int) kr kq ku s0 s1 s2 s3 s4 s5 hs, cR cI (b 3) 12 g3]) := by
  intro sz
  refine zstart rfl (by decide) (Nat.le_of_ble_eq_true rfl) ?_
  intro p e s m below meth c ls K hnm hsz hP hD hS hl
  generalize hargs : ([.ref h, .int (zI ((x : Nat) : Int))] : List Value).toArray = args at K ⊢
  generalize hQf : MQ below _ args s _ _ _ = Qf
  have K : zK p s m args meth c cX4_placeOf 3 RX4 (some .int) D cI := K
  obtain ⟨hx, hb, hml, hown, hts, hE, -, -⟩ := id K
  have hA := zhA (ws0 := [cM h b ((pm : Nat) : Int) ((n : Nat) : Int) ((k : Nat) : Int) ((d : Nat) : Int) ((rr : Nat) : Int) ((hd : Nat) : Int) ((sm : Nat) : Int) kr kq ku s0 s1 s2 s3 s4 s5 hs, cR cI (b 3) 12 g3]) hsz
  have hl : lv_has ls 3 [(0, .ref h), (1, .int (zI ((x : Nat) : Int)))] := hl
  obtain ⟨r0, hr0, hr1⟩ := fb_onto hπ hπi hx0
  refine lv_iconst (v := zI 0) hx hb dX4_placeOf_0 rfl ?_
  refine lv_istore_n (lv' := [(2, .int (zI 0)), (0, .ref h), (1, .int (zI ((x : Nat) : Int)))]) hx hb dX4_placeOf_1 rfl hl (by decide) rfl (fun ls hl => ?_)
  have cut_2 : ∀ (N_2 : Nat), ∀ (i : Nat), n - i < N_2 → (i ≤ r0) → (∀ j, j < i → π j ≠ x) → ∀ (H : Heap) (locs : List Loc) (ls : Array Slot), va_P D cls [cM h b ((pm : Nat) : Int) ((n : Nat) : Int) ((k : Nat) : Int) ((d : Nat) : Int) ((rr : Nat) : Int) ((hd : Nat) : Int) ((sm : Nat) : Int) kr kq ku s0 s1 s2 s3 s4 s5 hs, cR cI (b 3) 12 g3] H → va_D (va_A [cM h b ((pm : Nat) : Int) ((n : Nat) : Int) ((k : Nat) : Int) ((d : Nat) : Int) ((rr : Nat) : Int) ((hd : Nat) : Int) ((sm : Nat) : Int) kr kq ku s0 s1 s2 s3 s4 s5 hs, cR cI (b 3) 12 g3] sz) [cM h b ((pm : Nat) : Int) ((n : Nat) : Int) ((k : Nat) : Int) ((d : Nat) : Int) ((rr : Nat) : Int) ((hd : Nat) : Int) ((sm : Nat) : Int) kr kq ku s0 s1 s2 s3 s4 s5 hs, cR cI (b 3) 12 g3] → va_S (va_A [cM h b ((pm : Nat) : Int) ((n : Nat) : Int) ((k : Nat) : Int) ((d : Nat) : Int) ((rr : Nat) : Int) ((hd : Nat) : Int) ((sm : Nat) : Int) kr kq ku s0 s1 s2 s3 s4 s5 hs, cR cI (b 3) 12 g3] sz) s.heap H locs → lv_has ls 3 [(0, .ref h), (1, .int (zI ((x : Nat) : Int))), (2, .int (zI ((i : Nat) : Int)))] → W p l e ({ frames := 0, cells := 0, slots := 0, locals := 0 }) s m args below meth c H locs 0 0 Qf (F0 m 2 ls []) := by
    intro N_2
    induction N_2 with
    | zero => intro i hm_2; exact absurd hm_2 (Nat.not_lt_zero _)
    | succ N_2 ih_2 =>
      intro i hm_2 hi hno H locs ls hP hD hS hl
      refine lv_aload_n hx hb dX4_placeOf_2 rfl (lv_at hl 0 rfl) ?_
      refine va_get (D := D) (ci := 4) (v := .ref (b 3)) (C := RX4) (T := TX4) (N := 32) hx hb hts inT_X4 hown hE.1 hP 0 rfl rfl 8 (by decide) (hts _ qf_X4_19) (fun _ h9 => h9) rfl dX4_placeOf_3 ?_
      refine lv_iload_n hx hb dX4_placeOf_6 rfl (lv_at hl 2 rfl) ?_
      have hπi0 := hπ i (by omega)
      refine z_iald hx hb hE hP 1 rfl i (by omega) (by omega) (by first | decide | omega) ((π i : Nat) : Int) (hg3 i (by omega)) dX4_placeOf_7 ?_
      refine lv_iload_n hx hb dX4_placeOf_8 rfl (lv_at hl 1 rfl) ?_
      refine z_icmp_eq (tgt := 18) hx hb (by omega) dX4_placeOf_9 (by decide) (fun c_9 => ?_) (fun c_9 => ?_)
      · refine lv_iload_n hx hb dX4_placeOf_18 rfl (lv_at hl 2 rfl) ?_
        rw [← hQf]
        exact z_iret K hS () (by rw [plo, fa_is (m := i) (fun j hj => by simp [hno j hj]) (Or.inr ⟨by omega, by simp; omega⟩), Nat.mod_eq_of_lt (by omega)]) hP hD dX4_placeOf_19
      · have hne : i ≠ r0 := fun h9 => c_9 (by rw [h9, hr1])
        refine z_iinc (k := 2) (lv' := [(2, .int (zI (((i + 1) : Nat) : Int))), (0, .ref h), (1, .int (zI ((x : Nat) : Int)))]) hx hb (((i + 1) : Nat) : Int) (by omega) dX4_placeOf_12 hl rfl (by decide) rfl (fun ls hl => ?_)
        refine lv_goto (tgt := 2) hx hb dX4_placeOf_15 (by decide) ?_
        exact ih_2 (i + 1) (by omega) (by omega) (by intro j hj; rcases Nat.lt_or_ge j i with h1 | h1; exact hno j h1; rw [show j = i by omega]; omega) _ _ _ hP hD hS (lv_sub hl [1, 2, 0] rfl)
  exact cut_2 (n - 0 + 1) 0 (Nat.lt_succ_self _) (by omega) (by intro j hj; omega) _ _ _ hP hD hS (lv_sub hl [1, 2, 0] rfl)
