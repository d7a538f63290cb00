set_option maxHeartbeats 4000000 in
set_option maxRecDepth 100000 in
theorem c_X3_home (l : Launch) (D : va_G) (cI : ClassId) (x : Nat) (b : Nat → Nat) (ik rr : Int) (hc : Nat) (aN : Nat → Nat) (n k d v : Nat) (g0 g1 g2 g3 g4 g5 g6 : Nat → Int) (κ ν π ss sf st : Nat → Nat) (gp : Nat → Int) (y1 : Int) (hT : TI n k d v g0 g1 g2 g3 g4 g5 g6 κ ν π ss sf st) (hhc : hc ≤ 30) (hy1 : -2147483648 ≤ y1 ∧ y1 < 2147483648) : zMi l yX3_home cX3_home 3 (some .int) ({ frames := 3, cells := 0, slots := 0, locals := 69 }) D cI [.ref x, .int (zI y1)] [cX x b ik rr ((hc : Nat) : Int), cT (b 1) aN ((n : Nat) : Int) ((k : Nat) : Int) ((d : Nat) : Int) ((v : Nat) : Int), cR cI (aN 2) 72 g2, cR cI (aN 3) 12 g3, cR cI (b 6) 4 gp] (fun (z : Int) (u : (Int) × (Nat → Int)) => (z = (fHome n k κ ν π hc y1)) ∧ (u.1 = ((chk y1 2 (fun _ => if k = 0 ∨ 30 ≤ hc then hc else hc + 1) hc : Nat) : Int))) (fun (u : (Int) × (Nat → Int)) => [cX x b ik rr u.1, cT (b 1) aN ((n : Nat) : Int) ((k : Nat) : Int) ((d : Nat) : Int) ((v : Nat) : Int), cR cI (aN 2) 72 g2, cR cI (aN 3) 12 g3, cR cI (b 6) 4 u.2]) := by
  intro sz
  refine zstart rfl (by decide) (Nat.le_of_ble_eq_true rfl) ?_
  intro p e s m below meth c ls K hnm hsz hP hD hS hl
  generalize hargs : ([.ref x, .int (zI y1)] : List Value).toArray = args at K ⊢
  generalize hQf : MQ below _ args s _ _ _ = Qf
  have K : zK p s m args meth c cX3_home 3 RX3 (some .int) D cI := K
  obtain ⟨hx, hb, hml, hown, hts, hE, -, -⟩ := id K
  have hA := zhA (ws0 := [cX x b ik rr ((hc : Nat) : Int), cT (b 1) aN ((n : Nat) : Int) ((k : Nat) : Int) ((d : Nat) : Int) ((v : Nat) : Int), cR cI (aN 2) 72 g2, cR cI (aN 3) 12 g3, cR cI (b 6) 4 gp]) hsz
  have hl : lv_has ls 3 [(0, .ref x), (1, .int (zI y1))] := hl
  obtain ⟨hnk, hd, hv, hg0, hκ, hg1, hν, hg2, hg3, hπ, hπi, hg4, hss, hg5, hsf, hg6, hst⟩ := id hT
  have hn : n ≤ 12 := by omega
  have hk : k ≤ 6 := by omega
  have hμ := mus_lt (k := k) hn hκ hν
  have hμi := mus_inj (k := k) hn hκ hν
  have hρ : ∀ j, j < n → rdc (mus n κ ν) k j < n := fun j hj => rdc_lt hμ (Nat.le_refl k) hj
  have hρi : inj (rdc (mus n κ ν) k) n := rdc_inj hμ hμi (Nat.le_refl k)
  refine lv_iload_n hx hb dX3_home_0 rfl (lv_at hl 1 rfl) ?_
  refine z_if_lt (tgt := 9) hx hb (by omega) dX3_home_1 (by decide) (fun c_1 => ?_) (fun c_1 => ?_)
  · refine lv_bipush (v := zI (-102)) hx hb dX3_home_9 (by decide) ?_
    rw [← hQf]
    exact z_iret K hS (((hc : Nat) : Int), gp) ⟨(by rw [fHome, chk_f (by omega)]), (by (try dsimp only); rw [chk_f (by omega)])⟩ hP hD dX3_home_11
  · refine lv_iload_n hx hb dX3_home_4 rfl (lv_at hl 1 rfl) ?_
    refine lv_iconst (v := zI 1) hx hb dX3_home_5 rfl ?_
    refine z_icmp_le (tgt := 12) hx hb (by omega) dX3_home_6 (by decide) (fun c_6 => ?_) (fun c_6 => ?_)
    · obtain ⟨q1, rfl⟩ : ∃ q : Nat, y1 = (q : Int) := ⟨y1.toNat, by omega⟩
      have hck : ∀ (α : Type) (f : Nat → α) (e9 : α), chk ((q1 : Nat) : Int) 2 f e9 = f q1 := fun α f e9 => chk_t (by omega)
      refine lv_aload_n hx hb dX3_home_12 rfl (lv_at hl 0 rfl) ?_
      refine va_get (D := D) (ci := 3) (v := .ref (b 1)) (C := RX3) (T := TX3) (N := 10) hx hb hts inT_X3 hown hE.1 hP 0 rfl rfl 1 (by decide) (hts _ qf_X3_19) (fun _ h9 => h9) rfl dX3_home_13 ?_
      refine zcall_i (wc := [cT (b 1) aN ((n : Nat) : Int) ((k : Nat) : Int) ((d : Nat) : Int) ((v : Nat) : Int)]) (wr := [cX x b ik rr ((hc : Nat) : Int), cR cI (aN 2) 72 g2, cR cI (aN 3) 12 g3, cR cI (b 6) 4 gp]) (rest := []) hE hP hD hS hA [1] [0, 2, 3, 4] [0, 4, 1, 2, 3] rfl rfl (by decide) (by decide) (by decide) (fun (u : Unit) => [cX x b ik rr ((hc : Nat) : Int), cT (b 1) aN ((n : Nat) : Int) ((k : Nat) : Int) ((d : Nat) : Int) ((v : Nat) : Int), cR cI (aN 2) 72 g2, cR cI (aN 3) 12 g3, cR cI (b 6) 4 gp]) (fun u => rfl) (fun hPc hDc => zrunVN (As := []) (rest := []) (q0 := 0) (ci := 1) K k_X1_hasRoutine nk_X3_124 ⟨⟨rfl, rfl⟩, ⟨Nat.le_of_ble_eq_true rfl, Nat.le_of_ble_eq_true rfl⟩⟩ rfl rfl hPc hDc (c_X1_hasRoutine l D cI (b 1) aN n k d v (by first | assumption | omega) _) rfl hl.1 rfl (Nat.le_of_ble_eq_true rfl) dX3_home_16 ⟨Nat.zero_le _, Nat.zero_le _⟩) (by decide) (fun z u H locs hpost hP hD hS => ?_)
      subst hpost
      have hP : va_P D cls [cX x b ik rr ((hc : Nat) : Int), cT (b 1) aN ((n : Nat) : Int) ((k : Nat) : Int) ((d : Nat) : Int) ((v : Nat) : Int), cR cI (aN 2) 72 g2, cR cI (aN 3) 12 g3, cR cI (b 6) 4 gp] H := hP
      have hD : va_D (va_A [cX x b ik rr ((hc : Nat) : Int), cT (b 1) aN ((n : Nat) : Int) ((k : Nat) : Int) ((d : Nat) : Int) ((v : Nat) : Int), cR cI (aN 2) 72 g2, cR cI (aN 3) 12 g3, cR cI (b 6) 4 gp] sz) [cX x b ik rr ((hc : Nat) : Int), cT (b 1) aN ((n : Nat) : Int) ((k : Nat) : Int) ((d : Nat) : Int) ((v : Nat) : Int), cR cI (aN 2) 72 g2, cR cI (aN 3) 12 g3, cR cI (b 6) 4 gp] := hD
      refine W.eq (g2 := F0 m 19 ls [.int (zI (b01 (0 < k)))]) rfl ?_
      refine z_if_eq (tgt := 31) hx hb (by have := b01_r (0 < k); omega) dX3_home_19 (by decide) (fun c_19 => ?_) (fun c_19 => ?_)
      · have b_19 := b01_eq c_19
        refine lv_bipush (v := zI (-103)) hx hb dX3_home_31 (by decide) ?_
        rw [← hQf]
        exact z_iret K hS (((hc : Nat) : Int), gp) ⟨(by simp only [fHome, chk_t (show q1 < 2 by omega)]; rw [if_pos (by omega)]), (by (try dsimp only); rw [hck, if_pos (by omega)])⟩ hP hD dX3_home_33
      · have b_19 := b01_ne c_19
        refine lv_aload_n hx hb dX3_home_22 rfl (lv_at hl 0 rfl) ?_
        refine va_get (D := D) (ci := 3) (v := .int (zI ((hc : Nat) : Int))) (C := RX3) (T := TX3) (N := 10) hx hb hts inT_X3 hown hE.1 hP 0 rfl rfl 5 (by decide) (hts _ qf_X3_166) (fun _ h9 => h9) rfl dX3_home_23 ?_
        refine lv_bipush (v := zI 30) hx hb dX3_home_26 (by decide) ?_
        refine z_icmp_lt (tgt := 34) hx hb (by omega) dX3_home_28 (by decide) (fun c_28 => ?_) (fun c_28 => ?_)
        · refine lv_aload_n hx hb dX3_home_34 rfl (lv_at hl 0 rfl) ?_
          refine lv_dup hx hb dX3_home_35 rfl ?_
          refine va_get (D := D) (ci := 3) (v := .int (zI ((hc : Nat) : Int))) (C := RX3) (T := TX3) (N := 10) hx hb hts inT_X3 hown hE.1 hP 0 rfl rfl 5 (by decide) (hts _ qf_X3_166) (fun _ h9 => h9) rfl dX3_home_36 ?_
          refine lv_iconst (v := zI 1) hx hb dX3_home_39 rfl ?_
          refine z_iadd hx hb (((hc + 1) : Nat) : Int) (by omega) dX3_home_40 ?_
          refine va_put (D := D) (ci := 3) (v := .int (zI (((hc + 1) : Nat) : Int))) (ty := .int) (C := RX3) (T := TX3) (N := 10) hx hb hts inT_X3 tyX3 tyX3_ok nmX3 hown hE.1 hP hD hS 0 rfl rfl 5 (by decide) (hts _ qf_X3_166) (fun _ h9 => h9) rfl (by decide +kernel) rfl rfl (Nat.le_of_ble_eq_true rfl) dX3_home_41 (fun H locs hP hD hS => ?_)
          have hP : va_P D cls [cX x b ik rr (((hc + 1) : Nat) : Int), cT (b 1) aN ((n : Nat) : Int) ((k : Nat) : Int) ((d : Nat) : Int) ((v : Nat) : Int), cR cI (aN 2) 72 g2, cR cI (aN 3) 12 g3, cR cI (b 6) 4 gp] H := hP
          have hD : va_D (va_A [cX x b ik rr ((hc : Nat) : Int), cT (b 1) aN ((n : Nat) : Int) ((k : Nat) : Int) ((d : Nat) : Int) ((v : Nat) : Int), cR cI (aN 2) 72 g2, cR cI (aN 3) 12 g3, cR cI (b 6) 4 gp] sz) [cX x b ik rr (((hc + 1) : Nat) : Int), cT (b 1) aN ((n : Nat) : Int) ((k : Nat) : Int) ((d : Nat) : Int) ((v : Nat) : Int), cR cI (aN 2) 72 g2, cR cI (aN 3) 12 g3, cR cI (b 6) 4 gp] := hD
          refine lv_iconst (v := zI 0) hx hb dX3_home_44 rfl ?_
          refine lv_istore_n (lv' := [(2, .int (zI 0)), (0, .ref x), (1, .int (zI ((q1 : Nat) : Int)))]) hx hb dX3_home_45 rfl hl (by decide) rfl (fun ls hl => ?_)
          have cut_46 : ∀ (N_46 : Nat), ∀ (i : Nat) (q : Nat → Int), 5 - i < N_46 → (i ≤ 5) → (fHome n k κ ν π hc ((q1 : Nat) : Int) = fHm (mus n κ ν) n k π q1 (5 - i) i) → ∀ (H : Heap) (locs : List Loc) (ls : Array Slot), va_P D cls [cX x b ik rr (((hc + 1) : Nat) : Int), cT (b 1) aN ((n : Nat) : Int) ((k : Nat) : Int) ((d : Nat) : Int) ((v : Nat) : Int), cR cI (aN 2) 72 g2, cR cI (aN 3) 12 g3, cR cI (b 6) 4 q] H → va_D (va_A [cX x b ik rr ((hc : Nat) : Int), cT (b 1) aN ((n : Nat) : Int) ((k : Nat) : Int) ((d : Nat) : Int) ((v : Nat) : Int), cR cI (aN 2) 72 g2, cR cI (aN 3) 12 g3, cR cI (b 6) 4 gp] sz) [cX x b ik rr (((hc + 1) : Nat) : Int), cT (b 1) aN ((n : Nat) : Int) ((k : Nat) : Int) ((d : Nat) : Int) ((v : Nat) : Int), cR cI (aN 2) 72 g2, cR cI (aN 3) 12 g3, cR cI (b 6) 4 q] → va_S (va_A [cX x b ik rr ((hc : Nat) : Int), cT (b 1) aN ((n : Nat) : Int) ((k : Nat) : Int) ((d : Nat) : Int) ((v : Nat) : Int), cR cI (aN 2) 72 g2, cR cI (aN 3) 12 g3, cR cI (b 6) 4 gp] sz) s.heap H locs → lv_has ls 3 [(0, .ref x), (1, .int (zI ((q1 : Nat) : Int))), (2, .int (zI ((i : Nat) : Int)))] → W p l e ({ frames := 3, cells := 0, slots := 0, locals := 69 }) s m args below meth c H locs 0 0 Qf (F0 m 46 ls []) := by
            intro N_46
            induction N_46 with
            | zero => intro i q hm_46; exact absurd hm_46 (Nat.not_lt_zero _)
            | succ N_46 ih_46 =>
              intro i q hm_46 hi hh H locs ls hP hD hS hl
              refine lv_iload_n hx hb dX3_home_46 rfl (lv_at hl 2 rfl) ?_
              refine lv_iconst (v := zI 4) hx hb dX3_home_47 rfl ?_
              refine z_icmp_gt (tgt := 79) hx hb (by omega) dX3_home_48 (by decide) (fun c_48 => ?_) (fun c_48 => ?_)
              · refine lv_iconst (v := zI (-1)) hx hb dX3_home_79 rfl ?_
                rw [← hQf]
                exact z_iret K hS ((((hc + 1) : Nat) : Int), q) ⟨(by rw [hh, show 5 - i = 0 by omega]; rfl), (by (try dsimp only); rw [hck, if_neg (by omega)])⟩ hP hD dX3_home_80
              · refine lv_aload_n hx hb dX3_home_51 rfl (lv_at hl 0 rfl) ?_
                refine lv_iload_n hx hb dX3_home_52 rfl (lv_at hl 2 rfl) ?_
                refine zcall_i (wc := [cX x b ik rr (((hc + 1) : Nat) : Int), cT (b 1) aN ((n : Nat) : Int) ((k : Nat) : Int) ((d : Nat) : Int) ((v : Nat) : Int), cR cI (aN 2) 72 g2, cR cI (aN 3) 12 g3, cR cI (b 6) 4 q]) (wr := []) (rest := []) hE hP hD hS hA [0, 1, 2, 3, 4] [] [0, 1, 2, 3, 4] rfl rfl (by decide) (by decide) (by decide) (fun (u : (Nat → Int)) => [cX x b ik rr (((hc + 1) : Nat) : Int), cT (b 1) aN ((n : Nat) : Int) ((k : Nat) : Int) ((d : Nat) : Int) ((v : Nat) : Int), cR cI (aN 2) 72 g2, cR cI (aN 3) 12 g3, cR cI (b 6) 4 u]) (fun u => rfl) (fun hPc hDc => zrunV (As := [.int (zI ((i : Nat) : Int))]) (rest := []) (q0 := 0) (ci := 3) K k_X3_findPathHome qm_X3_169 ⟨⟨rfl, rfl⟩, ⟨Nat.le_of_ble_eq_true rfl, Nat.le_of_ble_eq_true rfl⟩⟩ rfl rfl hPc hDc (c_X3_findPathHome l D cI x b ik rr (((hc + 1) : Nat) : Int) aN n k d v g2 (mus n κ ν) g3 q π i (by first | assumption | omega) (by first | assumption | omega) (by first | assumption | omega) (by first | assumption | omega) (by first | assumption | omega) (by first | assumption | omega) (by first | assumption | omega) (by first | assumption | omega) _) rfl hl.1 rfl (Nat.le_of_ble_eq_true rfl) dX3_home_53 ⟨Nat.zero_le _, Nat.zero_le _⟩) (by decide) (fun z u H locs hpost hP hD hS => ?_)
                obtain ⟨op_1, hu⟩ : ∃ z, z = u := ⟨_, rfl⟩
                subst hu
                obtain ⟨rfl, hop_53⟩ := hpost
                have hop_53 : (fa_first (fun q => homB (mus n κ ν) (dg k i q) π i n) (k ^ i)) < k ^ i → ∀ j, j < i → op_1 j = ((dg k i (fa_first (fun q => homB (mus n κ ν) (dg k i q) π i n) (k ^ i)) j : Nat) : Int) := hop_53
                have hP : va_P D cls [cX x b ik rr (((hc + 1) : Nat) : Int), cT (b 1) aN ((n : Nat) : Int) ((k : Nat) : Int) ((d : Nat) : Int) ((v : Nat) : Int), cR cI (aN 2) 72 g2, cR cI (aN 3) 12 g3, cR cI (b 6) 4 op_1] H := hP
                have hD : va_D (va_A [cX x b ik rr ((hc : Nat) : Int), cT (b 1) aN ((n : Nat) : Int) ((k : Nat) : Int) ((d : Nat) : Int) ((v : Nat) : Int), cR cI (aN 2) 72 g2, cR cI (aN 3) 12 g3, cR cI (b 6) 4 gp] sz) [cX x b ik rr (((hc + 1) : Nat) : Int), cT (b 1) aN ((n : Nat) : Int) ((k : Nat) : Int) ((d : Nat) : Int) ((v : Nat) : Int), cR cI (aN 2) 72 g2, cR cI (aN 3) 12 g3, cR cI (b 6) 4 op_1] := hD
                refine W.eq (g2 := F0 m 56 ls [.int (zI (b01 ((fa_first (fun q => homB (mus n κ ν) (dg k i q) π i n) (k ^ i)) < k ^ i)))]) rfl ?_
                refine z_if_eq (tgt := 73) hx hb (by have := b01_r ((fa_first (fun q => homB (mus n κ ν) (dg k i q) π i n) (k ^ i)) < k ^ i); omega) dX3_home_56 (by decide) (fun c_56 => ?_) (fun c_56 => ?_)
                · have b_56 := b01_eq c_56
                  refine z_iinc (k := 2) (lv' := [(2, .int (zI (((i + 1) : Nat) : Int))), (0, .ref x), (1, .int (zI ((q1 : Nat) : Int)))]) hx hb (((i + 1) : Nat) : Int) (by omega) dX3_home_73 hl rfl (by decide) rfl (fun ls hl => ?_)
                  refine lv_goto (tgt := 46) hx hb dX3_home_76 (by decide) ?_
                  exact ih_46 (i + 1) op_1 (by omega) (by omega) (by rw [hh, show 5 - i = (5 - (i + 1)) + 1 by omega, fHm, if_neg b_56]) _ _ _ hP hD hS (lv_sub hl [1, 2, 0] rfl)
                · have b_56 := b01_ne c_56
                  have hff : fHome n k κ ν π hc ((q1 : Nat) : Int) = if q1 = 0 then ((i : Nat) : Int) else ((dgs (dg k i (fa_first (fun q => homB (mus n κ ν) (dg k i q) π i n) (k ^ i))) i : Nat) : Int) := by rw [hh, show 5 - i = (5 - (i + 1)) + 1 by omega, fHm, if_pos b_56]
                  refine lv_iload_n hx hb dX3_home_59 rfl (lv_at hl 1 rfl) ?_
                  refine z_if_ne (tgt := 67) hx hb (by omega) dX3_home_60 (by decide) (fun c_60 => ?_) (fun c_60 => ?_)
                  · refine lv_aload_n hx hb dX3_home_67 rfl (lv_at hl 0 rfl) ?_
                    refine lv_iload_n hx hb dX3_home_68 rfl (lv_at hl 2 rfl) ?_
                    refine zcall_i (wc := [cX x b ik rr (((hc + 1) : Nat) : Int), cR cI (b 6) 4 op_1]) (wr := [cT (b 1) aN ((n : Nat) : Int) ((k : Nat) : Int) ((d : Nat) : Int) ((v : Nat) : Int), cR cI (aN 2) 72 g2, cR cI (aN 3) 12 g3]) (rest := []) hE hP hD hS hA [0, 4] [1, 2, 3] [3, 0, 1, 2, 4] rfl rfl (by decide) (by decide) (by decide) (fun (u : Unit) => [cX x b ik rr (((hc + 1) : Nat) : Int), cT (b 1) aN ((n : Nat) : Int) ((k : Nat) : Int) ((d : Nat) : Int) ((v : Nat) : Int), cR cI (aN 2) 72 g2, cR cI (aN 3) 12 g3, cR cI (b 6) 4 op_1]) (fun u => rfl) (fun hPc hDc => zrunV (As := [.int (zI ((i : Nat) : Int))]) (rest := []) (q0 := 0) (ci := 3) K k_X3_pathInDigits qm_X3_172 ⟨⟨rfl, rfl⟩, ⟨Nat.le_of_ble_eq_true rfl, Nat.le_of_ble_eq_true rfl⟩⟩ rfl rfl hPc hDc (c_X3_pathInDigits l D cI x b ik rr (((hc + 1) : Nat) : Int) aN n k d v op_1 (dg k i (fa_first (fun q => homB (mus n κ ν) (dg k i q) π i n) (k ^ i))) i (by first | assumption | omega) (hop_53 b_56) _) rfl hl.1 rfl (Nat.le_of_ble_eq_true rfl) dX3_home_69 ⟨Nat.zero_le _, Nat.zero_le _⟩) (by decide) (fun z u H locs hpost hP hD hS => ?_)
                    subst hpost
                    have hP : va_P D cls [cX x b ik rr (((hc + 1) : Nat) : Int), cT (b 1) aN ((n : Nat) : Int) ((k : Nat) : Int) ((d : Nat) : Int) ((v : Nat) : Int), cR cI (aN 2) 72 g2, cR cI (aN 3) 12 g3, cR cI (b 6) 4 op_1] H := hP
                    have hD : va_D (va_A [cX x b ik rr ((hc : Nat) : Int), cT (b 1) aN ((n : Nat) : Int) ((k : Nat) : Int) ((d : Nat) : Int) ((v : Nat) : Int), cR cI (aN 2) 72 g2, cR cI (aN 3) 12 g3, cR cI (b 6) 4 gp] sz) [cX x b ik rr (((hc + 1) : Nat) : Int), cT (b 1) aN ((n : Nat) : Int) ((k : Nat) : Int) ((d : Nat) : Int) ((v : Nat) : Int), cR cI (aN 2) 72 g2, cR cI (aN 3) 12 g3, cR cI (b 6) 4 op_1] := hD
                    refine W.eq (g2 := F0 m 72 ls [.int (zI (((dgs (dg k i (fa_first (fun q => homB (mus n κ ν) (dg k i q) π i n) (k ^ i))) i) : Nat) : Int))]) rfl ?_
                    rw [← hQf]
                    exact z_iret K hS ((((hc + 1) : Nat) : Int), op_1) ⟨(by rw [hff]; first | (rw [if_pos (by omega)]; done) | rw [if_neg (by omega)]), (by (try dsimp only); rw [hck, if_neg (by omega)])⟩ hP hD dX3_home_72
                  · refine lv_iload_n hx hb dX3_home_63 rfl (lv_at hl 2 rfl) ?_
                    refine lv_goto (tgt := 72) hx hb dX3_home_64 (by decide) ?_
                    rw [← hQf]
                    exact z_iret K hS ((((hc + 1) : Nat) : Int), op_1) ⟨(by rw [hff]; first | (rw [if_pos (by omega)]; done) | rw [if_neg (by omega)]), (by (try dsimp only); rw [hck, if_neg (by omega)])⟩ hP hD dX3_home_72
          exact cut_46 (5 - 0 + 1) 0 gp (Nat.lt_succ_self _) (by omega) (by simp only [fHome, chk_t (show q1 < 2 by omega)]; rw [if_neg (by omega)]) _ _ _ hP hD hS (lv_sub hl [1, 2, 0] rfl)
        · refine lv_bipush (v := zI (-103)) hx hb dX3_home_31 (by decide) ?_
          rw [← hQf]
          exact z_iret K hS (((hc : Nat) : Int), gp) ⟨(by simp only [fHome, chk_t (show q1 < 2 by omega)]; rw [if_pos (by omega)]), (by (try dsimp only); rw [hck, if_pos (by omega)])⟩ hP hD dX3_home_33
    · refine lv_bipush (v := zI (-102)) hx hb dX3_home_9 (by decide) ?_
      rw [← hQf]
      exact z_iret K hS (((hc : Nat) : Int), gp) ⟨(by rw [fHome, chk_f (by omega)]), (by (try dsimp only); rw [chk_f (by omega)])⟩ hP hD dX3_home_11
set_option maxHeartbeats 4000000 in
set_option maxRecDepth 100000 in
theorem c_X3_odds (l : Launch) (D : va_G) (cI : ClassId) (x : Nat) (b : Nat → Nat) (ik rr hc : Int) (aN : Nat → Nat) (n k d v : Nat) (g0 g1 g2 g3 g4 g5 g6 : Nat → Int) (κ ν π ss sf st : Nat → Nat) (gt gs : Nat → Int) (y1 y2 y3 y4 : Int) (hT : TI n k d v g0 g1 g2 g3 g4 g5 g6 κ ν π ss sf st) (hy1 : -2147483648 ≤ y1 ∧ y1 < 2147483648) (hy2 : -2147483648 ≤ y2 ∧ y2 < 2147483648) (hy3 : -2147483648 ≤ y3 ∧ y3 < 2147483648) (hy4 : -2147483648 ≤ y4 ∧ y4 < 2147483648) : zMi l yX3_odds cX3_odds 9 (some .int) ({ frames := 2, cells := 0, slots := 0, locals := 73 }) D cI [.ref x, .int (zI y1), .int (zI y2), .int (zI y3), .int (zI y4)] [cX x b ik rr hc, cT (b 1) aN ((n : Nat) : Int) ((k : Nat) : Int) ((d : Nat) : Int) ((v : Nat) : Int), cR cI (aN 2) 72 g2, cR cI (aN 3) 12 g3, cR cI (b 4) 12 gt, cR cI (b 5) 12 gs] (fun (z : Int) (u : (Nat → Int) × (Nat → Int)) => (z = (fOdds n k κ ν π y1 y2 y3 y4)) ∧ (-2147483648 ≤ z ∧ z < 2147483648)) (fun (u : (Nat → Int) × (Nat → Int)) => [cX x b ik rr hc, cT (b 1) aN ((n : Nat) : Int) ((k : Nat) : Int) ((d : Nat) : Int) ((v : Nat) : Int), cR cI (aN 2) 72 g2, cR cI (aN 3) 12 g3, cR cI (b 4) 12 u.1, cR cI (b 5) 12 u.2]) := by
  intro sz
  refine zstart rfl (by decide) (Nat.le_of_ble_eq_true rfl) ?_
  intro p e s m below meth c ls K hnm hsz hP hD hS hl
  generalize hargs : ([.ref x, .int (zI y1), .int (zI y2), .int (zI y3), .int (zI y4)] : List Value).toArray = args at K ⊢
  generalize hQf : MQ below _ args s _ _ _ = Qf
  have K : zK p s m args meth c cX3_odds 9 RX3 (some .int) D cI := K
  obtain ⟨hx, hb, hml, hown, hts, hE, -, -⟩ := id K
  have hA := zhA (ws0 := [cX x b ik rr hc, cT (b 1) aN ((n : Nat) : Int) ((k : Nat) : Int) ((d : Nat) : Int) ((v : Nat) : Int), cR cI (aN 2) 72 g2, cR cI (aN 3) 12 g3, cR cI (b 4) 12 gt, cR cI (b 5) 12 gs]) hsz
  have hl : lv_has ls 9 [(0, .ref x), (1, .int (zI y1)), (2, .int (zI y2)), (3, .int (zI y3)), (4, .int (zI y4))] := hl
  obtain ⟨hnk, hd, hv, hg0, hκ, hg1, hν, hg2, hg3, hπ, hπi, hg4, hss, hg5, hsf, hg6, hst⟩ := id hT
  have hn : n ≤ 12 := by omega
  have hk : k ≤ 6 := by omega
  have hμ := mus_lt (k := k) hn hκ hν
  have hμi := mus_inj (k := k) hn hκ hν
  have hρ : ∀ j, j < n → rdc (mus n κ ν) k j < n := fun j hj => rdc_lt hμ (Nat.le_refl k) hj
  have hρi : inj (rdc (mus n κ ν) k) n := rdc_inj hμ hμi (Nat.le_refl k)
  refine lv_aload_n hx hb dX3_odds_0 rfl (lv_at hl 0 rfl) ?_
  refine va_get (D := D) (ci := 3) (v := .ref (b 1)) (C := RX3) (T := TX3) (N := 10) hx hb hts inT_X3 hown hE.1 hP 0 rfl rfl 1 (by decide) (hts _ qf_X3_19) (fun _ h9 => h9) rfl dX3_odds_1 ?_
  refine lv_iload_n hx hb dX3_odds_4 rfl (lv_at hl 1 rfl) ?_
  refine zcall_i (wc := [cT (b 1) aN ((n : Nat) : Int) ((k : Nat) : Int) ((d : Nat) : Int) ((v : Nat) : Int)]) (wr := [cX x b ik rr hc, cR cI (aN 2) 72 g2, cR cI (aN 3) 12 g3, cR cI (b 4) 12 gt, cR cI (b 5) 12 gs]) (rest := []) hE hP hD hS hA [1] [0, 2, 3, 4, 5] [0, 5, 1, 2, 3, 4] rfl rfl (by decide) (by decide) (by decide) (fun (u : Unit) => [cX x b ik rr hc, cT (b 1) aN ((n : Nat) : Int) ((k : Nat) : Int) ((d : Nat) : Int) ((v : Nat) : Int), cR cI (aN 2) 72 g2, cR cI (aN 3) 12 g3, cR cI (b 4) 12 gt, cR cI (b 5) 12 gs]) (fun u => rfl) (fun hPc hDc => zrunVN (As := [.int (zI y1)]) (rest := []) (q0 := 0) (ci := 1) K k_X1_hasCard nk_X3_154 ⟨⟨rfl, rfl⟩, ⟨Nat.le_of_ble_eq_true rfl, Nat.le_of_ble_eq_true rfl⟩⟩ rfl rfl hPc hDc (c_X1_hasCard l D cI (b 1) aN n k d v y1 (by first | assumption | omega) (by first | assumption | omega) _) rfl hl.1 rfl (Nat.le_of_ble_eq_true rfl) dX3_odds_5 ⟨Nat.zero_le _, Nat.zero_le _⟩) (by decide) (fun z u H locs hpost hP hD hS => ?_)
  subst hpost
  have hP : va_P D cls [cX x b ik rr hc, cT (b 1) aN ((n : Nat) : Int) ((k : Nat) : Int) ((d : Nat) : Int) ((v : Nat) : Int), cR cI (aN 2) 72 g2, cR cI (aN 3) 12 g3, cR cI (b 4) 12 gt, cR cI (b 5) 12 gs] H := hP
  have hD : va_D (va_A [cX x b ik rr hc, cT (b 1) aN ((n : Nat) : Int) ((k : Nat) : Int) ((d : Nat) : Int) ((v : Nat) : Int), cR cI (aN 2) 72 g2, cR cI (aN 3) 12 g3, cR cI (b 4) 12 gt, cR cI (b 5) 12 gs] sz) [cX x b ik rr hc, cT (b 1) aN ((n : Nat) : Int) ((k : Nat) : Int) ((d : Nat) : Int) ((v : Nat) : Int), cR cI (aN 2) 72 g2, cR cI (aN 3) 12 g3, cR cI (b 4) 12 gt, cR cI (b 5) 12 gs] := hD
  refine W.eq (g2 := F0 m 8 ls [.int (zI (b01 (0 ≤ y1 ∧ y1 < n)))]) rfl ?_
  refine z_if_eq (tgt := 22) hx hb (by have := b01_r (0 ≤ y1 ∧ y1 < n); omega) dX3_odds_8 (by decide) (fun c_8 => ?_) (fun c_8 => ?_)
  · have b_8 := b01_eq c_8
    refine lv_bipush (v := zI (-101)) hx hb dX3_odds_22 (by decide) ?_
    rw [← hQf]
    exact z_iret K hS (gt, gs) ⟨(by first | (simp only [fOdds, chk_f b_8]; done) | simp only [fOdds, chk_t (show q1 < n by omega), chk_f b_19]), (by (try dsimp only); omega)⟩ hP hD dX3_odds_24
  · have b_8 := b01_ne c_8
    obtain ⟨q1, rfl⟩ : ∃ q : Nat, y1 = (q : Int) := ⟨y1.toNat, by omega⟩
    refine lv_aload_n hx hb dX3_odds_11 rfl (lv_at hl 0 rfl) ?_
    refine va_get (D := D) (ci := 3) (v := .ref (b 1)) (C := RX3) (T := TX3) (N := 10) hx hb hts inT_X3 hown hE.1 hP 0 rfl rfl 1 (by decide) (hts _ qf_X3_19) (fun _ h9 => h9) rfl dX3_odds_12 ?_
    refine lv_iload_n hx hb dX3_odds_15 rfl (lv_at hl 2 rfl) ?_
    refine zcall_i (wc := [cT (b 1) aN ((n : Nat) : Int) ((k : Nat) : Int) ((d : Nat) : Int) ((v : Nat) : Int)]) (wr := [cX x b ik rr hc, cR cI (aN 2) 72 g2, cR cI (aN 3) 12 g3, cR cI (b 4) 12 gt, cR cI (b 5) 12 gs]) (rest := []) hE hP hD hS hA [1] [0, 2, 3, 4, 5] [0, 5, 1, 2, 3, 4] rfl rfl (by decide) (by decide) (by decide) (fun (u : Unit) => [cX x b ik rr hc, cT (b 1) aN ((n : Nat) : Int) ((k : Nat) : Int) ((d : Nat) : Int) ((v : Nat) : Int), cR cI (aN 2) 72 g2, cR cI (aN 3) 12 g3, cR cI (b 4) 12 gt, cR cI (b 5) 12 gs]) (fun u => rfl) (fun hPc hDc => zrunVN (As := [.int (zI y2)]) (rest := []) (q0 := 0) (ci := 1) K k_X1_hasPlace nk_X3_108 ⟨⟨rfl, rfl⟩, ⟨Nat.le_of_ble_eq_true rfl, Nat.le_of_ble_eq_true rfl⟩⟩ rfl rfl hPc hDc (c_X1_hasPlace l D cI (b 1) aN n k d v y2 (by first | assumption | omega) (by first | assumption | omega) _) rfl hl.1 rfl (Nat.le_of_ble_eq_true rfl) dX3_odds_16 ⟨Nat.zero_le _, Nat.zero_le _⟩) (by decide) (fun z u H locs hpost hP hD hS => ?_)
    subst hpost
    have hP : va_P D cls [cX x b ik rr hc, cT (b 1) aN ((n : Nat) : Int) ((k : Nat) : Int) ((d : Nat) : Int) ((v : Nat) : Int), cR cI (aN 2) 72 g2, cR cI (aN 3) 12 g3, cR cI (b 4) 12 gt, cR cI (b 5) 12 gs] H := hP
    have hD : va_D (va_A [cX x b ik rr hc, cT (b 1) aN ((n : Nat) : Int) ((k : Nat) : Int) ((d : Nat) : Int) ((v : Nat) : Int), cR cI (aN 2) 72 g2, cR cI (aN 3) 12 g3, cR cI (b 4) 12 gt, cR cI (b 5) 12 gs] sz) [cX x b ik rr hc, cT (b 1) aN ((n : Nat) : Int) ((k : Nat) : Int) ((d : Nat) : Int) ((v : Nat) : Int), cR cI (aN 2) 72 g2, cR cI (aN 3) 12 g3, cR cI (b 4) 12 gt, cR cI (b 5) 12 gs] := hD
    refine W.eq (g2 := F0 m 19 ls [.int (zI (b01 (0 ≤ y2 ∧ y2 < n)))]) rfl ?_
    refine z_if_ne (tgt := 25) hx hb (by have := b01_r (0 ≤ y2 ∧ y2 < n); omega) dX3_odds_19 (by decide) (fun c_19 => ?_) (fun c_19 => ?_)
    · have b_19 := b01_ne c_19
      obtain ⟨q2, rfl⟩ : ∃ q : Nat, y2 = (q : Int) := ⟨y2.toNat, by omega⟩
      refine lv_iload_n hx hb dX3_odds_25 rfl (lv_at hl 3 rfl) ?_
      refine lv_iconst (v := zI 1) hx hb dX3_odds_26 rfl ?_
      refine z_icmp_lt (tgt := 47) hx hb (by omega) dX3_odds_27 (by decide) (fun c_27 => ?_) (fun c_27 => ?_)
      · refine lv_bipush (v := zI (-102)) hx hb dX3_odds_47 (by decide) ?_
        rw [← hQf]
        exact z_iret K hS (gt, gs) ⟨(by simp only [fOdds, chk_t (show q1 < n by omega), chk_t (show q2 < n by omega)]; rw [if_neg (by omega)]), (by (try dsimp only); omega)⟩ hP hD dX3_odds_49
      · refine lv_iload_n hx hb dX3_odds_30 rfl (lv_at hl 3 rfl) ?_
        refine lv_bipush (v := zI 8) hx hb dX3_odds_31 (by decide) ?_
        refine z_icmp_gt (tgt := 47) hx hb (by omega) dX3_odds_33 (by decide) (fun c_33 => ?_) (fun c_33 => ?_)
        · refine lv_bipush (v := zI (-102)) hx hb dX3_odds_47 (by decide) ?_
          rw [← hQf]
          exact z_iret K hS (gt, gs) ⟨(by simp only [fOdds, chk_t (show q1 < n by omega), chk_t (show q2 < n by omega)]; rw [if_neg (by omega)]), (by (try dsimp only); omega)⟩ hP hD dX3_odds_49
        · refine lv_iload hx hb dX3_odds_36 (lv_at hl 4 rfl) ?_
          refine z_if_lt (tgt := 47) hx hb (by omega) dX3_odds_38 (by decide) (fun c_38 => ?_) (fun c_38 => ?_)
          · refine lv_bipush (v := zI (-102)) hx hb dX3_odds_47 (by decide) ?_
            rw [← hQf]
            exact z_iret K hS (gt, gs) ⟨(by simp only [fOdds, chk_t (show q1 < n by omega), chk_t (show q2 < n by omega)]; rw [if_neg (by omega)]), (by (try dsimp only); omega)⟩ hP hD dX3_odds_49
          · refine lv_iload hx hb dX3_odds_41 (lv_at hl 4 rfl) ?_
            refine lv_iconst (v := zI 1) hx hb dX3_odds_43 rfl ?_
            refine z_icmp_le (tgt := 50) hx hb (by omega) dX3_odds_44 (by decide) (fun c_44 => ?_) (fun c_44 => ?_)
            · obtain ⟨q3, rfl⟩ : ∃ q : Nat, y3 = (q : Int) := ⟨y3.toNat, by omega⟩
              obtain ⟨q4, rfl⟩ : ∃ q : Nat, y4 = (q : Int) := ⟨y4.toNat, by omega⟩
              have hpl : plo π n q1 < n := Nat.mod_lt _ (by omega)
              obtain ⟨f0, hf0⟩ : ∃ q, q = plo π n q1 := ⟨_, rfl⟩
              have hwl := wy_le (μ := mus n κ ν) (n := n) (k := k) (p0 := f0) (q := q2) (m := q3) (by omega) (by omega) (by omega) hμ
              have hp8 := pw8 (k := k) (m := q3) hk (by omega)
              have hkp : 0 < k ^ q3 := Nat.pow_pos (by omega)
              have hgp : 0 < Nat.gcd (k ^ q3) (wy (mus n κ ν) n k f0 q3 q2) := Nat.gcd_pos_of_pos_left _ hkp
              have hgl : Nat.gcd (k ^ q3) (wy (mus n κ ν) n k f0 q3 q2) ≤ k ^ q3 := Nat.gcd_le_left _ hkp
              have hfo : fOdds n k κ ν π ((q1 : Nat) : Int) ((q2 : Nat) : Int) ((q3 : Nat) : Int) ((q4 : Nat) : Int) = (((if q4 = 0 then wy (mus n κ ν) n k f0 q3 q2 else k ^ q3) / Nat.gcd (k ^ q3) (wy (mus n κ ν) n k f0 q3 q2) : Nat) : Int) := by simp only [fOdds, chk_t (show q1 < n by omega), chk_t (show q2 < n by omega)]; rw [if_pos (by omega)]; simp only [fOd, Int.toNat_natCast, ← hf0]
              refine lv_aload_n hx hb dX3_odds_50 rfl (lv_at hl 0 rfl) ?_
              refine lv_aload_n hx hb dX3_odds_51 rfl (lv_at hl 0 rfl) ?_
              refine va_get (D := D) (ci := 3) (v := .ref (b 1)) (C := RX3) (T := TX3) (N := 10) hx hb hts inT_X3 hown hE.1 hP 0 rfl rfl 1 (by decide) (hts _ qf_X3_19) (fun _ h9 => h9) rfl dX3_odds_52 ?_
              refine lv_iload_n hx hb dX3_odds_55 rfl (lv_at hl 1 rfl) ?_
              refine zcall_i (wc := [cT (b 1) aN ((n : Nat) : Int) ((k : Nat) : Int) ((d : Nat) : Int) ((v : Nat) : Int), cR cI (aN 3) 12 g3]) (wr := [cX x b ik rr hc, cR cI (aN 2) 72 g2, cR cI (b 4) 12 gt, cR cI (b 5) 12 gs]) (rest := [.ref x]) hE hP hD hS hA [1, 3] [0, 2, 4, 5] [0, 4, 1, 5, 2, 3] rfl rfl (by decide) (by decide) (by decide) (fun (u : Unit) => [cX x b ik rr hc, cT (b 1) aN ((n : Nat) : Int) ((k : Nat) : Int) ((d : Nat) : Int) ((v : Nat) : Int), cR cI (aN 2) 72 g2, cR cI (aN 3) 12 g3, cR cI (b 4) 12 gt, cR cI (b 5) 12 gs]) (fun u => rfl) (fun hPc hDc => zrunVN (As := [.int (zI ((q1 : Nat) : Int))]) (rest := [.ref x]) (q0 := 0) (ci := 1) K k_X1_placeOf nk_X3_157 ⟨⟨rfl, rfl⟩, ⟨Nat.le_of_ble_eq_true rfl, Nat.le_of_ble_eq_true rfl⟩⟩ rfl rfl hPc hDc (c_X1_placeOf l D cI (b 1) aN n k d v g3 π q1 (by first | assumption | omega) (by first | assumption | omega) (by first | assumption | omega) (by first | assumption | omega) _) rfl hl.1 rfl (Nat.le_of_ble_eq_true rfl) dX3_odds_56 ⟨Nat.zero_le _, Nat.zero_le _⟩) (by decide) (fun z u H locs hpost hP hD hS => ?_)
              subst hpost
              have hP : va_P D cls [cX x b ik rr hc, cT (b 1) aN ((n : Nat) : Int) ((k : Nat) : Int) ((d : Nat) : Int) ((v : Nat) : Int), cR cI (aN 2) 72 g2, cR cI (aN 3) 12 g3, cR cI (b 4) 12 gt, cR cI (b 5) 12 gs] H := hP
              have hD : va_D (va_A [cX x b ik rr hc, cT (b 1) aN ((n : Nat) : Int) ((k : Nat) : Int) ((d : Nat) : Int) ((v : Nat) : Int), cR cI (aN 2) 72 g2, cR cI (aN 3) 12 g3, cR cI (b 4) 12 gt, cR cI (b 5) 12 gs] sz) [cX x b ik rr hc, cT (b 1) aN ((n : Nat) : Int) ((k : Nat) : Int) ((d : Nat) : Int) ((v : Nat) : Int), cR cI (aN 2) 72 g2, cR cI (aN 3) 12 g3, cR cI (b 4) 12 gt, cR cI (b 5) 12 gs] := hD
              refine W.eq (g2 := F0 m 59 ls [.int (zI (((plo π n q1) : Nat) : Int)), .ref x]) rfl ?_
              refine W.eq (g2 := F0 m 59 ls [.int (zI ((f0 : Nat) : Int)), .ref x]) (by rw [show ((((plo π n q1) : Nat) : Int) : Int) = ((f0 : Nat) : Int) from by rw [hf0]]) ?_
              refine lv_iload_n hx hb dX3_odds_59 rfl (lv_at hl 3 rfl) ?_
              refine zcall_v (wc := [cX x b ik rr hc, cT (b 1) aN ((n : Nat) : Int) ((k : Nat) : Int) ((d : Nat) : Int) ((v : Nat) : Int), cR cI (aN 2) 72 g2, cR cI (b 4) 12 gt, cR cI (b 5) 12 gs]) (wr := [cR cI (aN 3) 12 g3]) (rest := []) hE hP hD hS hA [0, 1, 2, 4, 5] [3] [1, 2, 3, 0, 4, 5] rfl rfl (by decide) (by decide) (by decide) (fun (u : (Nat → Int) × (Nat → Int)) => [cX x b ik rr hc, cT (b 1) aN ((n : Nat) : Int) ((k : Nat) : Int) ((d : Nat) : Int) ((v : Nat) : Int), cR cI (aN 2) 72 g2, cR cI (aN 3) 12 g3, cR cI (b 4) 12 u.1, cR cI (b 5) 12 u.2]) (fun u => rfl) (fun hPc hDc => zrunV (As := [.int (zI ((f0 : Nat) : Int)), .int (zI ((q3 : Nat) : Int))]) (rest := []) (q0 := 0) (ci := 3) K k_X3_tellDrawsFrom qm_X3_175 ⟨⟨rfl, rfl⟩, ⟨Nat.le_of_ble_eq_true rfl, Nat.le_of_ble_eq_true rfl⟩⟩ rfl rfl hPc hDc (c_X3_tellDrawsFrom l D cI x b ik rr hc aN n k d v g2 (mus n κ ν) gt gs f0 q3 (by first | assumption | omega) (by first | assumption | omega) (by first | assumption | omega) (by first | assumption | omega) (by first | assumption | omega) (by first | assumption | omega) (by first | assumption | omega) _) rfl hl.1 rfl (Nat.le_of_ble_eq_true rfl) dX3_odds_60 ⟨Nat.zero_le _, Nat.zero_le _⟩) (by decide) (fun u H locs hpost hP hD hS => ?_)
              obtain ⟨ot_1, os_2⟩ := u
              have hot_60 := hpost
              have hot_60 : ∀ j, j < n → ot_1 j = ((wy (mus n κ ν) n k f0 q3 j : Nat) : Int) := hot_60
              have hP : va_P D cls [cX x b ik rr hc, cT (b 1) aN ((n : Nat) : Int) ((k : Nat) : Int) ((d : Nat) : Int) ((v : Nat) : Int), cR cI (aN 2) 72 g2, cR cI (aN 3) 12 g3, cR cI (b 4) 12 ot_1, cR cI (b 5) 12 os_2] H := hP
              have hD : va_D (va_A [cX x b ik rr hc, cT (b 1) aN ((n : Nat) : Int) ((k : Nat) : Int) ((d : Nat) : Int) ((v : Nat) : Int), cR cI (aN 2) 72 g2, cR cI (aN 3) 12 g3, cR cI (b 4) 12 gt, cR cI (b 5) 12 gs] sz) [cX x b ik rr hc, cT (b 1) aN ((n : Nat) : Int) ((k : Nat) : Int) ((d : Nat) : Int) ((v : Nat) : Int), cR cI (aN 2) 72 g2, cR cI (aN 3) 12 g3, cR cI (b 4) 12 ot_1, cR cI (b 5) 12 os_2] := hD
              refine lv_aload_n hx hb dX3_odds_63 rfl (lv_at hl 0 rfl) ?_
              refine va_get (D := D) (ci := 3) (v := .ref (b 4)) (C := RX3) (T := TX3) (N := 10) hx hb hts inT_X3 hown hE.1 hP 0 rfl rfl 7 (by decide) (hts _ qf_X3_33) (fun _ h9 => h9) rfl dX3_odds_64 ?_
              refine lv_iload_n hx hb dX3_odds_67 rfl (lv_at hl 2 rfl) ?_
              refine z_iald hx hb hE hP 4 rfl q2 (by omega) (by omega) (by first | decide | omega) ((wy (mus n κ ν) n k f0 q3 q2 : Nat) : Int) (hot_60 q2 (by omega)) dX3_odds_68 ?_
              refine lv_istore (lv' := [(5, .int (zI ((wy (mus n κ ν) n k f0 q3 q2 : Nat) : Int))), (0, .ref x), (1, .int (zI ((q1 : Nat) : Int))), (2, .int (zI ((q2 : Nat) : Int))), (3, .int (zI ((q3 : Nat) : Int))), (4, .int (zI ((q4 : Nat) : Int)))]) hx hb dX3_odds_69 hl (by decide) rfl (fun ls hl => ?_)
              refine lv_iconst (v := zI 1) hx hb dX3_odds_71 rfl ?_
              refine lv_istore (lv' := [(6, .int (zI 1)), (5, .int (zI ((wy (mus n κ ν) n k f0 q3 q2 : Nat) : Int))), (0, .ref x), (1, .int (zI ((q1 : Nat) : Int))), (2, .int (zI ((q2 : Nat) : Int))), (3, .int (zI ((q3 : Nat) : Int))), (4, .int (zI ((q4 : Nat) : Int)))]) hx hb dX3_odds_72 hl (by decide) rfl (fun ls hl => ?_)
              refine lv_iconst (v := zI 0) hx hb dX3_odds_74 rfl ?_
              refine lv_istore (lv' := [(7, .int (zI 0)), (6, .int (zI 1)), (5, .int (zI ((wy (mus n κ ν) n k f0 q3 q2 : Nat) : Int))), (0, .ref x), (1, .int (zI ((q1 : Nat) : Int))), (2, .int (zI ((q2 : Nat) : Int))), (3, .int (zI ((q3 : Nat) : Int))), (4, .int (zI ((q4 : Nat) : Int)))]) hx hb dX3_odds_75 hl (by decide) rfl (fun ls hl => ?_)
              have cut_77 : ∀ (N_77 : Nat), ∀ (i y : Nat), q3 - i < N_77 → (i ≤ q3) → (y = k ^ i) → ∀ (H : Heap) (locs : List Loc) (ls : Array Slot), va_P D cls [cX x b ik rr hc, cT (b 1) aN ((n : Nat) : Int) ((k : Nat) : Int) ((d : Nat) : Int) ((v : Nat) : Int), cR cI (aN 2) 72 g2, cR cI (aN 3) 12 g3, cR cI (b 4) 12 ot_1, cR cI (b 5) 12 os_2] H → va_D (va_A [cX x b ik rr hc, cT (b 1) aN ((n : Nat) : Int) ((k : Nat) : Int) ((d : Nat) : Int) ((v : Nat) : Int), cR cI (aN 2) 72 g2, cR cI (aN 3) 12 g3, cR cI (b 4) 12 gt, cR cI (b 5) 12 gs] sz) [cX x b ik rr hc, cT (b 1) aN ((n : Nat) : Int) ((k : Nat) : Int) ((d : Nat) : Int) ((v : Nat) : Int), cR cI (aN 2) 72 g2, cR cI (aN 3) 12 g3, cR cI (b 4) 12 ot_1, cR cI (b 5) 12 os_2] → va_S (va_A [cX x b ik rr hc, cT (b 1) aN ((n : Nat) : Int) ((k : Nat) : Int) ((d : Nat) : Int) ((v : Nat) : Int), cR cI (aN 2) 72 g2, cR cI (aN 3) 12 g3, cR cI (b 4) 12 gt, cR cI (b 5) 12 gs] sz) s.heap H locs → lv_has ls 9 [(0, .ref x), (1, .int (zI ((q1 : Nat) : Int))), (2, .int (zI ((q2 : Nat) : Int))), (3, .int (zI ((q3 : Nat) : Int))), (4, .int (zI ((q4 : Nat) : Int))), (5, .int (zI ((wy (mus n κ ν) n k f0 q3 q2 : Nat) : Int))), (6, .int (zI ((y : Nat) : Int))), (7, .int (zI ((i : Nat) : Int)))] → W p l e ({ frames := 2, cells := 0, slots := 0, locals := 73 }) s m args below meth c H locs 0 0 Qf (F0 m 77 ls []) := by
                intro N_77
                induction N_77 with
                | zero => intro i y hm_77; exact absurd hm_77 (Nat.not_lt_zero _)
                | succ N_77 ih_77 =>
                  intro i y hm_77 hi hy H locs ls hP hD hS hl
                  refine lv_iload hx hb dX3_odds_77 (lv_at hl 7 rfl) ?_
                  refine lv_iload_n hx hb dX3_odds_79 rfl (lv_at hl 3 rfl) ?_
                  refine z_icmp_ge (tgt := 101) hx hb (by omega) dX3_odds_80 (by decide) (fun c_80 => ?_) (fun c_80 => ?_)
                  · have hyq : y = k ^ q3 := by rw [hy, show i = q3 by omega]
                    refine lv_iload hx hb dX3_odds_101 (lv_at hl 4 rfl) ?_
                    refine z_if_ne (tgt := 111) hx hb (by omega) dX3_odds_103 (by decide) (fun c_103 => ?_) (fun c_103 => ?_)
                    · refine lv_iload hx hb dX3_odds_111 (lv_at hl 6 rfl) ?_
                      refine W.eq (g2 := F0 m 113 ls [.int (zI (((k ^ q3) : Nat) : Int))]) (by rw [show (((y : Nat) : Int) : Int) = (((k ^ q3) : Nat) : Int) from by rw [hyq]]) ?_
                      refine lv_istore (lv' := [(7, .int (zI (((k ^ q3) : Nat) : Int))), (0, .ref x), (1, .int (zI ((q1 : Nat) : Int))), (2, .int (zI ((q2 : Nat) : Int))), (3, .int (zI ((q3 : Nat) : Int))), (4, .int (zI ((q4 : Nat) : Int))), (5, .int (zI ((wy (mus n κ ν) n k f0 q3 q2 : Nat) : Int))), (6, .int (zI ((y : Nat) : Int)))]) hx hb dX3_odds_113 hl (by decide) rfl (fun ls hl => ?_)
                      refine lv_iload hx hb dX3_odds_115 (lv_at hl 7 rfl) ?_
                      refine W.eq (g2 := F0 m 117 ls [.int (zI (((k ^ q3) : Nat) : Int))]) (by rw [show (((y : Nat) : Int) : Int) = (((k ^ q3) : Nat) : Int) from by rw [hyq]]) ?_
                      refine lv_iload hx hb dX3_odds_117 (lv_at hl 6 rfl) ?_
                      refine zcall_i (wc := []) (wr := [cX x b ik rr hc, cT (b 1) aN ((n : Nat) : Int) ((k : Nat) : Int) ((d : Nat) : Int) ((v : Nat) : Int), cR cI (aN 2) 72 g2, cR cI (aN 3) 12 g3, cR cI (b 4) 12 ot_1, cR cI (b 5) 12 os_2]) (rest := []) hE hP hD hS hA [] [0, 1, 2, 3, 4, 5] [0, 1, 2, 3, 4, 5] rfl rfl (by decide) (by decide) (by decide) (fun (u : Unit) => [cX x b ik rr hc, cT (b 1) aN ((n : Nat) : Int) ((k : Nat) : Int) ((d : Nat) : Int) ((v : Nat) : Int), cR cI (aN 2) 72 g2, cR cI (aN 3) 12 g3, cR cI (b 4) 12 ot_1, cR cI (b 5) 12 os_2]) (fun u => rfl) (fun hPc hDc => zrunS (As := [.int (zI (((k ^ q3) : Nat) : Int)), .int (zI ((wy (mus n κ ν) n k f0 q3 q2 : Nat) : Int))]) (rest := []) K k_X3_greatestDivisor qm_X3_179 ⟨⟨rfl, rfl⟩, ⟨Nat.le_of_ble_eq_true rfl, Nat.le_of_ble_eq_true rfl⟩⟩ hPc hDc (c_X3_greatestDivisor l D cI (k ^ q3) (wy (mus n κ ν) n k f0 q3 q2) (by first | assumption | omega) (by first | assumption | omega) _) rfl hl.1 rfl (Nat.le_of_ble_eq_true rfl) dX3_odds_119 ⟨Nat.zero_le _, Nat.zero_le _⟩) (by decide) (fun z u H locs hpost hP hD hS => ?_)
                      subst hpost
                      have hP : va_P D cls [cX x b ik rr hc, cT (b 1) aN ((n : Nat) : Int) ((k : Nat) : Int) ((d : Nat) : Int) ((v : Nat) : Int), cR cI (aN 2) 72 g2, cR cI (aN 3) 12 g3, cR cI (b 4) 12 ot_1, cR cI (b 5) 12 os_2] H := hP
                      have hD : va_D (va_A [cX x b ik rr hc, cT (b 1) aN ((n : Nat) : Int) ((k : Nat) : Int) ((d : Nat) : Int) ((v : Nat) : Int), cR cI (aN 2) 72 g2, cR cI (aN 3) 12 g3, cR cI (b 4) 12 gt, cR cI (b 5) 12 gs] sz) [cX x b ik rr hc, cT (b 1) aN ((n : Nat) : Int) ((k : Nat) : Int) ((d : Nat) : Int) ((v : Nat) : Int), cR cI (aN 2) 72 g2, cR cI (aN 3) 12 g3, cR cI (b 4) 12 ot_1, cR cI (b 5) 12 os_2] := hD
                      refine W.eq (g2 := F0 m 122 ls [.int (zI (((Nat.gcd (k ^ q3) (wy (mus n κ ν) n k f0 q3 q2)) : Nat) : Int))]) rfl ?_
                      refine lv_istore (lv' := [(8, .int (zI (((Nat.gcd (k ^ q3) (wy (mus n κ ν) n k f0 q3 q2)) : Nat) : Int))), (7, .int (zI (((k ^ q3) : Nat) : Int))), (0, .ref x), (1, .int (zI ((q1 : Nat) : Int))), (2, .int (zI ((q2 : Nat) : Int))), (3, .int (zI ((q3 : Nat) : Int))), (4, .int (zI ((q4 : Nat) : Int))), (5, .int (zI ((wy (mus n κ ν) n k f0 q3 q2 : Nat) : Int))), (6, .int (zI ((y : Nat) : Int)))]) hx hb dX3_odds_122 hl (by decide) rfl (fun ls hl => ?_)
                      refine lv_iload hx hb dX3_odds_124 (lv_at hl 0 rfl) ?_
                      refine z_if_le (tgt := 137) hx hb (by omega) dX3_odds_126 (by decide) (fun c_126 => ?_) (fun c_126 => ?_)
                      · exfalso; omega
                      · refine lv_iload hx hb dX3_odds_129 (lv_at hl 1 rfl) ?_
                        refine lv_iload hx hb dX3_odds_131 (lv_at hl 0 rfl) ?_
                        refine z_idiv hx hb ((((k ^ q3) / (Nat.gcd (k ^ q3) (wy (mus n κ ν) n k f0 q3 q2))) : Nat) : Int) (by omega) rfl dX3_odds_133 ?_
                        have hdl := Nat.div_le_self (wy (mus n κ ν) n k f0 q3 q2) (Nat.gcd (k ^ q3) (wy (mus n κ ν) n k f0 q3 q2))
                        have hdl2 := Nat.div_le_self (k ^ q3) (Nat.gcd (k ^ q3) (wy (mus n κ ν) n k f0 q3 q2))
                        have hz1 : (0 : Int) ≤ ((wy (mus n κ ν) n k f0 q3 q2 / Nat.gcd (k ^ q3) (wy (mus n κ ν) n k f0 q3 q2) : Nat) : Int) := Int.natCast_nonneg _
                        have hz2 : (0 : Int) ≤ ((k ^ q3 / Nat.gcd (k ^ q3) (wy (mus n κ ν) n k f0 q3 q2) : Nat) : Int) := Int.natCast_nonneg _
                        refine lv_goto (tgt := 139) hx hb dX3_odds_134 (by decide) ?_
                        rw [← hQf]
                        exact z_iret K hS (ot_1, os_2) ⟨(by rw [hfo]; first | (rw [if_pos (by omega)]; done) | rw [if_neg (by omega)]), (by (try dsimp only); omega)⟩ hP hD dX3_odds_139
                    · refine lv_iload hx hb dX3_odds_106 (lv_at hl 5 rfl) ?_
                      refine lv_goto (tgt := 113) hx hb dX3_odds_108 (by decide) ?_
                      refine lv_istore (lv' := [(7, .int (zI ((wy (mus n κ ν) n k f0 q3 q2 : Nat) : Int))), (0, .ref x), (1, .int (zI ((q1 : Nat) : Int))), (2, .int (zI ((q2 : Nat) : Int))), (3, .int (zI ((q3 : Nat) : Int))), (4, .int (zI ((q4 : Nat) : Int))), (5, .int (zI ((wy (mus n κ ν) n k f0 q3 q2 : Nat) : Int))), (6, .int (zI ((y : Nat) : Int)))]) hx hb dX3_odds_113 hl (by decide) rfl (fun ls hl => ?_)
                      refine lv_iload hx hb dX3_odds_115 (lv_at hl 7 rfl) ?_
                      refine W.eq (g2 := F0 m 117 ls [.int (zI (((k ^ q3) : Nat) : Int))]) (by rw [show (((y : Nat) : Int) : Int) = (((k ^ q3) : Nat) : Int) from by rw [hyq]]) ?_
                      refine lv_iload hx hb dX3_odds_117 (lv_at hl 6 rfl) ?_
                      refine zcall_i (wc := []) (wr := [cX x b ik rr hc, cT (b 1) aN ((n : Nat) : Int) ((k : Nat) : Int) ((d : Nat) : Int) ((v : Nat) : Int), cR cI (aN 2) 72 g2, cR cI (aN 3) 12 g3, cR cI (b 4) 12 ot_1, cR cI (b 5) 12 os_2]) (rest := []) hE hP hD hS hA [] [0, 1, 2, 3, 4, 5] [0, 1, 2, 3, 4, 5] rfl rfl (by decide) (by decide) (by decide) (fun (u : Unit) => [cX x b ik rr hc, cT (b 1) aN ((n : Nat) : Int) ((k : Nat) : Int) ((d : Nat) : Int) ((v : Nat) : Int), cR cI (aN 2) 72 g2, cR cI (aN 3) 12 g3, cR cI (b 4) 12 ot_1, cR cI (b 5) 12 os_2]) (fun u => rfl) (fun hPc hDc => zrunS (As := [.int (zI (((k ^ q3) : Nat) : Int)), .int (zI ((wy (mus n κ ν) n k f0 q3 q2 : Nat) : Int))]) (rest := []) K k_X3_greatestDivisor qm_X3_179 ⟨⟨rfl, rfl⟩, ⟨Nat.le_of_ble_eq_true rfl, Nat.le_of_ble_eq_true rfl⟩⟩ hPc hDc (c_X3_greatestDivisor l D cI (k ^ q3) (wy (mus n κ ν) n k f0 q3 q2) (by first | assumption | omega) (by first | assumption | omega) _) rfl hl.1 rfl (Nat.le_of_ble_eq_true rfl) dX3_odds_119 ⟨Nat.zero_le _, Nat.zero_le _⟩) (by decide) (fun z u H locs hpost hP hD hS => ?_)
                      subst hpost
                      have hP : va_P D cls [cX x b ik rr hc, cT (b 1) aN ((n : Nat) : Int) ((k : Nat) : Int) ((d : Nat) : Int) ((v : Nat) : Int), cR cI (aN 2) 72 g2, cR cI (aN 3) 12 g3, cR cI (b 4) 12 ot_1, cR cI (b 5) 12 os_2] H := hP
                      have hD : va_D (va_A [cX x b ik rr hc, cT (b 1) aN ((n : Nat) : Int) ((k : Nat) : Int) ((d : Nat) : Int) ((v : Nat) : Int), cR cI (aN 2) 72 g2, cR cI (aN 3) 12 g3, cR cI (b 4) 12 gt, cR cI (b 5) 12 gs] sz) [cX x b ik rr hc, cT (b 1) aN ((n : Nat) : Int) ((k : Nat) : Int) ((d : Nat) : Int) ((v : Nat) : Int), cR cI (aN 2) 72 g2, cR cI (aN 3) 12 g3, cR cI (b 4) 12 ot_1, cR cI (b 5) 12 os_2] := hD
                      refine W.eq (g2 := F0 m 122 ls [.int (zI (((Nat.gcd (k ^ q3) (wy (mus n κ ν) n k f0 q3 q2)) : Nat) : Int))]) rfl ?_
                      refine lv_istore (lv' := [(8, .int (zI (((Nat.gcd (k ^ q3) (wy (mus n κ ν) n k f0 q3 q2)) : Nat) : Int))), (7, .int (zI ((wy (mus n κ ν) n k f0 q3 q2 : Nat) : Int))), (0, .ref x), (1, .int (zI ((q1 : Nat) : Int))), (2, .int (zI ((q2 : Nat) : Int))), (3, .int (zI ((q3 : Nat) : Int))), (4, .int (zI ((q4 : Nat) : Int))), (5, .int (zI ((wy (mus n κ ν) n k f0 q3 q2 : Nat) : Int))), (6, .int (zI ((y : Nat) : Int)))]) hx hb dX3_odds_122 hl (by decide) rfl (fun ls hl => ?_)
                      refine lv_iload hx hb dX3_odds_124 (lv_at hl 0 rfl) ?_
                      refine z_if_le (tgt := 137) hx hb (by omega) dX3_odds_126 (by decide) (fun c_126 => ?_) (fun c_126 => ?_)
                      · exfalso; omega
                      · refine lv_iload hx hb dX3_odds_129 (lv_at hl 1 rfl) ?_
                        refine lv_iload hx hb dX3_odds_131 (lv_at hl 0 rfl) ?_
                        refine z_idiv hx hb ((((wy (mus n κ ν) n k f0 q3 q2) / (Nat.gcd (k ^ q3) (wy (mus n κ ν) n k f0 q3 q2))) : Nat) : Int) (by omega) rfl dX3_odds_133 ?_
                        have hdl := Nat.div_le_self (wy (mus n κ ν) n k f0 q3 q2) (Nat.gcd (k ^ q3) (wy (mus n κ ν) n k f0 q3 q2))
                        have hdl2 := Nat.div_le_self (k ^ q3) (Nat.gcd (k ^ q3) (wy (mus n κ ν) n k f0 q3 q2))
                        have hz1 : (0 : Int) ≤ ((wy (mus n κ ν) n k f0 q3 q2 / Nat.gcd (k ^ q3) (wy (mus n κ ν) n k f0 q3 q2) : Nat) : Int) := Int.natCast_nonneg _
                        have hz2 : (0 : Int) ≤ ((k ^ q3 / Nat.gcd (k ^ q3) (wy (mus n κ ν) n k f0 q3 q2) : Nat) : Int) := Int.natCast_nonneg _
                        refine lv_goto (tgt := 139) hx hb dX3_odds_134 (by decide) ?_
                        rw [← hQf]
                        exact z_iret K hS (ot_1, os_2) ⟨(by rw [hfo]; first | (rw [if_pos (by omega)]; done) | rw [if_neg (by omega)]), (by (try dsimp only); omega)⟩ hP hD dX3_odds_139
                  · refine lv_iload hx hb dX3_odds_83 (lv_at hl 6 rfl) ?_
                    refine lv_aload_n hx hb dX3_odds_85 rfl (lv_at hl 0 rfl) ?_
                    refine va_get (D := D) (ci := 3) (v := .ref (b 1)) (C := RX3) (T := TX3) (N := 10) hx hb hts inT_X3 hown hE.1 hP 0 rfl rfl 1 (by decide) (hts _ qf_X3_19) (fun _ h9 => h9) rfl dX3_odds_86 ?_
                    refine va_getN (D := D) (ci := 1) (v := .int (zI ((k : Nat) : Int))) (C := RX1) (T := TX1) (N := 11) hx hb hts inT_X1 hown hE.1 hP 1 rfl rfl 1 (by decide) (va_Nw.use rfl (hE.2 _ nf_X3_73 rfl)) (fun _ h9 => h9) rfl dX3_odds_89 ?_
                    refine z_imul hx hb (((y * k) : Nat) : Int) (by first | omega | exact (Int.natCast_mul _ _).symm) dX3_odds_92 ?_
                    refine lv_istore (lv' := [(6, .int (zI (((y * k) : Nat) : Int))), (0, .ref x), (1, .int (zI ((q1 : Nat) : Int))), (2, .int (zI ((q2 : Nat) : Int))), (3, .int (zI ((q3 : Nat) : Int))), (4, .int (zI ((q4 : Nat) : Int))), (5, .int (zI ((wy (mus n κ ν) n k f0 q3 q2 : Nat) : Int))), (7, .int (zI ((i : Nat) : Int)))]) hx hb dX3_odds_93 hl (by decide) rfl (fun ls hl => ?_)
                    refine z_iinc (k := 7) (lv' := [(7, .int (zI (((i + 1) : Nat) : Int))), (6, .int (zI (((y * k) : Nat) : Int))), (0, .ref x), (1, .int (zI ((q1 : Nat) : Int))), (2, .int (zI ((q2 : Nat) : Int))), (3, .int (zI ((q3 : Nat) : Int))), (4, .int (zI ((q4 : Nat) : Int))), (5, .int (zI ((wy (mus n κ ν) n k f0 q3 q2 : Nat) : Int)))]) hx hb (((i + 1) : Nat) : Int) (by omega) dX3_odds_95 hl rfl (by decide) rfl (fun ls hl => ?_)
                    refine lv_goto (tgt := 77) hx hb dX3_odds_98 (by decide) ?_
                    exact ih_77 (i + 1) (y * k) (by omega) (by omega) (by rw [hy, Nat.pow_succ]) _ _ _ hP hD hS (lv_sub hl [2, 3, 4, 5, 6, 7, 1, 0] rfl)
              exact cut_77 (q3 - 0 + 1) 0 1 (Nat.lt_succ_self _) (by omega) (by rfl) _ _ _ hP hD hS (lv_sub hl [3, 4, 5, 6, 7, 2, 1, 0] rfl)
            · refine lv_bipush (v := zI (-102)) hx hb dX3_odds_47 (by decide) ?_
              rw [← hQf]
              exact z_iret K hS (gt, gs) ⟨(by simp only [fOdds, chk_t (show q1 < n by omega), chk_t (show q2 < n by omega)]; rw [if_neg (by omega)]), (by (try dsimp only); omega)⟩ hP hD dX3_odds_49
    · have b_19 := b01_eq c_19
      refine lv_bipush (v := zI (-101)) hx hb dX3_odds_22 (by decide) ?_
      rw [← hQf]
      exact z_iret K hS (gt, gs) ⟨(by first | (simp only [fOdds, chk_f b_8]; done) | simp only [fOdds, chk_t (show q1 < n by omega), chk_f b_19]), (by (try dsimp only); omega)⟩ hP hD dX3_odds_24
set_option maxHeartbeats 4000000 in
set_option maxRecDepth 100000 in
theorem c_X3_runs (l : Launch) (D : va_G) (cI : ClassId) (x : Nat) (b : Nat → Nat) (ik rr hc : Int) (aN : Nat → Nat) (n k d v : Nat) (g0 g1 g2 g3 g4 g5 g6 : Nat → Int) (κ ν π ss sf st : Nat → Nat) (wa : Nat) (w0 : Int) (gw : Nat → Int) (y1 y2 y3 : Int) (hT : TI n k d v g0 g1 g2 g3 g4 g5 g6 κ ν π ss sf st) (hy1 : -2147483648 ≤ y1 ∧ y1 < 2147483648) (hy2 : -2147483648 ≤ y2 ∧ y2 < 2147483648) (hy3 : -2147483648 ≤ y3 ∧ y3 < 2147483648) : zMi l yX3_runs cX3_runs 5 (some .int) ({ frames := 3, cells := 0, slots := 0, locals := 70 }) D cI [.ref x, .int (zI y1), .int (zI y2), .int (zI y3)] [cX x b ik rr hc, cT (b 1) aN ((n : Nat) : Int) ((k : Nat) : Int) ((d : Nat) : Int) ((v : Nat) : Int), cR cI (aN 2) 72 g2, cR cI (aN 3) 12 g3, cW (b 3) wa w0, cR cI wa 12 gw] (fun (z : Int) (u : (Int) × (Nat → Int)) => (z = (fRuns n k κ ν π y1 y2 y3)) ∧ (-2147483648 ≤ z ∧ z < 2147483648)) (fun (u : (Int) × (Nat → Int)) => [cX x b ik rr hc, cT (b 1) aN ((n : Nat) : Int) ((k : Nat) : Int) ((d : Nat) : Int) ((v : Nat) : Int), cR cI (aN 2) 72 g2, cR cI (aN 3) 12 g3, cW (b 3) wa u.1, cR cI wa 12 u.2]) := by
  intro sz
  refine zstart rfl (by decide) (Nat.le_of_ble_eq_true rfl) ?_
  intro p e s m below meth c ls K hnm hsz hP hD hS hl
  generalize hargs : ([.ref x, .int (zI y1), .int (zI y2), .int (zI y3)] : List Value).toArray = args at K ⊢
  generalize hQf : MQ below _ args s _ _ _ = Qf
  have K : zK p s m args meth c cX3_runs 5 RX3 (some .int) D cI := K
  obtain ⟨hx, hb, hml, hown, hts, hE, -, -⟩ := id K
  have hA := zhA (ws0 := [cX x b ik rr hc, cT (b 1) aN ((n : Nat) : Int) ((k : Nat) : Int) ((d : Nat) : Int) ((v : Nat) : Int), cR cI (aN 2) 72 g2, cR cI (aN 3) 12 g3, cW (b 3) wa w0, cR cI wa 12 gw]) hsz
  have hl : lv_has ls 5 [(0, .ref x), (1, .int (zI y1)), (2, .int (zI y2)), (3, .int (zI y3))] := hl
  obtain ⟨hnk, hd, hv, hg0, hκ, hg1, hν, hg2, hg3, hπ, hπi, hg4, hss, hg5, hsf, hg6, hst⟩ := id hT
  have hn : n ≤ 12 := by omega
  have hk : k ≤ 6 := by omega
  have hμ := mus_lt (k := k) hn hκ hν
  have hμi := mus_inj (k := k) hn hκ hν
  have hρ : ∀ j, j < n → rdc (mus n κ ν) k j < n := fun j hj => rdc_lt hμ (Nat.le_refl k) hj
  have hρi : inj (rdc (mus n κ ν) k) n := rdc_inj hμ hμi (Nat.le_refl k)
  refine lv_iload_n hx hb dX3_runs_0 rfl (lv_at hl 1 rfl) ?_
  refine lv_iconst (v := zI 1) hx hb dX3_runs_1 rfl ?_
  refine z_icmp_lt (tgt := 24) hx hb (by omega) dX3_runs_2 (by decide) (fun c_2 => ?_) (fun c_2 => ?_)
  · refine lv_bipush (v := zI (-102)) hx hb dX3_runs_24 (by decide) ?_
    rw [← hQf]
    exact z_iret K hS (w0, gw) ⟨(by rw [fRuns, if_neg (by omega)]), (by (try dsimp only); omega)⟩ hP hD dX3_runs_26
  · refine lv_iload_n hx hb dX3_runs_5 rfl (lv_at hl 1 rfl) ?_
    refine lv_bipush (v := zI 99) hx hb dX3_runs_6 (by decide) ?_
    refine z_icmp_gt (tgt := 24) hx hb (by omega) dX3_runs_8 (by decide) (fun c_8 => ?_) (fun c_8 => ?_)
    · refine lv_bipush (v := zI (-102)) hx hb dX3_runs_24 (by decide) ?_
      rw [← hQf]
      exact z_iret K hS (w0, gw) ⟨(by rw [fRuns, if_neg (by omega)]), (by (try dsimp only); omega)⟩ hP hD dX3_runs_26
    · refine lv_iload_n hx hb dX3_runs_11 rfl (lv_at hl 2 rfl) ?_
      refine z_if_lt (tgt := 24) hx hb (by omega) dX3_runs_12 (by decide) (fun c_12 => ?_) (fun c_12 => ?_)
      · refine lv_bipush (v := zI (-102)) hx hb dX3_runs_24 (by decide) ?_
        rw [← hQf]
        exact z_iret K hS (w0, gw) ⟨(by rw [fRuns, if_neg (by omega)]), (by (try dsimp only); omega)⟩ hP hD dX3_runs_26
      · refine lv_iload_n hx hb dX3_runs_15 rfl (lv_at hl 3 rfl) ?_
        refine z_if_lt (tgt := 24) hx hb (by omega) dX3_runs_16 (by decide) (fun c_16 => ?_) (fun c_16 => ?_)
        · refine lv_bipush (v := zI (-102)) hx hb dX3_runs_24 (by decide) ?_
          rw [← hQf]
          exact z_iret K hS (w0, gw) ⟨(by rw [fRuns, if_neg (by omega)]), (by (try dsimp only); omega)⟩ hP hD dX3_runs_26
        · refine lv_iload_n hx hb dX3_runs_19 rfl (lv_at hl 3 rfl) ?_
          refine lv_iconst (v := zI 2) hx hb dX3_runs_20 rfl ?_
          refine z_icmp_le (tgt := 27) hx hb (by omega) dX3_runs_21 (by decide) (fun c_21 => ?_) (fun c_21 => ?_)
          · obtain ⟨q1, rfl⟩ : ∃ q : Nat, y1 = (q : Int) := ⟨y1.toNat, by omega⟩
            obtain ⟨q2, rfl⟩ : ∃ q : Nat, y2 = (q : Int) := ⟨y2.toNat, by omega⟩
            obtain ⟨q3, rfl⟩ : ∃ q : Nat, y3 = (q : Int) := ⟨y3.toNat, by omega⟩
            have hfr : fRuns n k κ ν π ((q1 : Nat) : Int) ((q2 : Nat) : Int) ((q3 : Nat) : Int) = if k = 0 then -103 else fRn (mus n κ ν) n k π q1 q2 q3 := by rw [fRuns, if_pos (by omega)]; simp only [Int.toNat_natCast]
            refine lv_aload_n hx hb dX3_runs_27 rfl (lv_at hl 0 rfl) ?_
            refine va_get (D := D) (ci := 3) (v := .ref (b 1)) (C := RX3) (T := TX3) (N := 10) hx hb hts inT_X3 hown hE.1 hP 0 rfl rfl 1 (by decide) (hts _ qf_X3_19) (fun _ h9 => h9) rfl dX3_runs_28 ?_
            refine zcall_i (wc := [cT (b 1) aN ((n : Nat) : Int) ((k : Nat) : Int) ((d : Nat) : Int) ((v : Nat) : Int)]) (wr := [cX x b ik rr hc, cR cI (aN 2) 72 g2, cR cI (aN 3) 12 g3, cW (b 3) wa w0, cR cI wa 12 gw]) (rest := []) hE hP hD hS hA [1] [0, 2, 3, 4, 5] [0, 5, 1, 2, 3, 4] rfl rfl (by decide) (by decide) (by decide) (fun (u : Unit) => [cX x b ik rr hc, cT (b 1) aN ((n : Nat) : Int) ((k : Nat) : Int) ((d : Nat) : Int) ((v : Nat) : Int), cR cI (aN 2) 72 g2, cR cI (aN 3) 12 g3, cW (b 3) wa w0, cR cI wa 12 gw]) (fun u => rfl) (fun hPc hDc => zrunVN (As := []) (rest := []) (q0 := 0) (ci := 1) K k_X1_hasRoutine nk_X3_124 ⟨⟨rfl, rfl⟩, ⟨Nat.le_of_ble_eq_true rfl, Nat.le_of_ble_eq_true rfl⟩⟩ rfl rfl hPc hDc (c_X1_hasRoutine l D cI (b 1) aN n k d v (by first | assumption | omega) _) rfl hl.1 rfl (Nat.le_of_ble_eq_true rfl) dX3_runs_31 ⟨Nat.zero_le _, Nat.zero_le _⟩) (by decide) (fun z u H locs hpost hP hD hS => ?_)
            subst hpost
            have hP : va_P D cls [cX x b ik rr hc, cT (b 1) aN ((n : Nat) : Int) ((k : Nat) : Int) ((d : Nat) : Int) ((v : Nat) : Int), cR cI (aN 2) 72 g2, cR cI (aN 3) 12 g3, cW (b 3) wa w0, cR cI wa 12 gw] H := hP
            have hD : va_D (va_A [cX x b ik rr hc, cT (b 1) aN ((n : Nat) : Int) ((k : Nat) : Int) ((d : Nat) : Int) ((v : Nat) : Int), cR cI (aN 2) 72 g2, cR cI (aN 3) 12 g3, cW (b 3) wa w0, cR cI wa 12 gw] sz) [cX x b ik rr hc, cT (b 1) aN ((n : Nat) : Int) ((k : Nat) : Int) ((d : Nat) : Int) ((v : Nat) : Int), cR cI (aN 2) 72 g2, cR cI (aN 3) 12 g3, cW (b 3) wa w0, cR cI wa 12 gw] := hD
            refine W.eq (g2 := F0 m 34 ls [.int (zI (b01 (0 < k)))]) rfl ?_
            refine z_if_ne (tgt := 40) hx hb (by have := b01_r (0 < k); omega) dX3_runs_34 (by decide) (fun c_34 => ?_) (fun c_34 => ?_)
            · have b_34 := b01_ne c_34
              have hwl := wq_lt (s0 := q2) (show 0 < k by omega) hμ q1
              have hwi := wq_inj (s0 := q2) (show 0 < k by omega) hμ hμi q1
              obtain ⟨r0, hr0, hr1⟩ := fb_onto (fun i hi => hwl i hi) hwi (show 0 < n by omega)
              have hpr := hπ r0 hr0
              have hsd := sdN_lt (s0 := q2) (by omega) q1
              have hct := fb_ct_le (fun j => decide (π j = wq (mus n κ ν) k q2 q1 j)) n
              have hpa : pa (wq (mus n κ ν) k q2 q1) n π 0 = π r0 := by rw [← hr1]; exact pa_at hwi hr0
              refine lv_aload_n hx hb dX3_runs_40 rfl (lv_at hl 0 rfl) ?_
              refine lv_iload_n hx hb dX3_runs_41 rfl (lv_at hl 1 rfl) ?_
              refine lv_iload_n hx hb dX3_runs_42 rfl (lv_at hl 2 rfl) ?_
              refine zcall_i (wc := [cX x b ik rr hc, cT (b 1) aN ((n : Nat) : Int) ((k : Nat) : Int) ((d : Nat) : Int) ((v : Nat) : Int), cR cI (aN 2) 72 g2, cW (b 3) wa w0, cR cI wa 12 gw]) (wr := [cR cI (aN 3) 12 g3]) (rest := []) hE hP hD hS hA [0, 1, 2, 4, 5] [3] [1, 2, 3, 0, 4, 5] rfl rfl (by decide) (by decide) (by decide) (fun (u : (Nat → Int)) => [cX x b ik rr hc, cT (b 1) aN ((n : Nat) : Int) ((k : Nat) : Int) ((d : Nat) : Int) ((v : Nat) : Int), cR cI (aN 2) 72 g2, cR cI (aN 3) 12 g3, cW (b 3) wa ((n : Nat) : Int), cR cI wa 12 u]) (fun u => rfl) (fun hPc hDc => zrunV (As := [.int (zI ((q1 : Nat) : Int)), .int (zI ((q2 : Nat) : Int))]) (rest := []) (q0 := 0) (ci := 3) K k_X3_drawSteps qm_X3_188 ⟨⟨rfl, rfl⟩, ⟨Nat.le_of_ble_eq_true rfl, Nat.le_of_ble_eq_true rfl⟩⟩ rfl rfl hPc hDc (c_X3_drawSteps l D cI x b ik rr hc aN n k d v g2 (mus n κ ν) wa w0 gw q1 q2 (by first | assumption | omega) (by first | assumption | omega) (by first | assumption | omega) (by first | assumption | omega) (by first | assumption | omega) (by first | assumption | omega) (by first | assumption | omega) _) rfl hl.1 rfl (Nat.le_of_ble_eq_true rfl) dX3_runs_43 ⟨Nat.zero_le _, Nat.zero_le _⟩) (by decide) (fun z u H locs hpost hP hD hS => ?_)
              obtain ⟨f_1, hu⟩ : ∃ z, z = u := ⟨_, rfl⟩
              subst hu
              obtain ⟨rfl, hf2_43⟩ := hpost
              have hf2_43 : ∀ j, j < n → f_1 j = ((wq (mus n κ ν) k q2 q1 j : Nat) : Int) := hf2_43
              have hP : va_P D cls [cX x b ik rr hc, cT (b 1) aN ((n : Nat) : Int) ((k : Nat) : Int) ((d : Nat) : Int) ((v : Nat) : Int), cR cI (aN 2) 72 g2, cR cI (aN 3) 12 g3, cW (b 3) wa ((n : Nat) : Int), cR cI wa 12 f_1] H := hP
              have hD : va_D (va_A [cX x b ik rr hc, cT (b 1) aN ((n : Nat) : Int) ((k : Nat) : Int) ((d : Nat) : Int) ((v : Nat) : Int), cR cI (aN 2) 72 g2, cR cI (aN 3) 12 g3, cW (b 3) wa w0, cR cI wa 12 gw] sz) [cX x b ik rr hc, cT (b 1) aN ((n : Nat) : Int) ((k : Nat) : Int) ((d : Nat) : Int) ((v : Nat) : Int), cR cI (aN 2) 72 g2, cR cI (aN 3) 12 g3, cW (b 3) wa ((n : Nat) : Int), cR cI wa 12 f_1] := hD
              refine W.eq (g2 := F0 m 46 ls [.int (zI (((sdN q2 q1) : Nat) : Int))]) rfl ?_
              refine lv_istore (lv' := [(4, .int (zI (((sdN q2 q1) : Nat) : Int))), (0, .ref x), (1, .int (zI ((q1 : Nat) : Int))), (2, .int (zI ((q2 : Nat) : Int))), (3, .int (zI ((q3 : Nat) : Int)))]) hx hb dX3_runs_46 hl (by decide) rfl (fun ls hl => ?_)
              refine lv_iload_n hx hb dX3_runs_48 rfl (lv_at hl 4 rfl) ?_
              refine z_if_ne (tgt := 64) hx hb (by omega) dX3_runs_49 (by decide) (fun c_49 => ?_) (fun c_49 => ?_)
              · refine lv_iload_n hx hb dX3_runs_64 rfl (lv_at hl 4 rfl) ?_
                refine lv_iconst (v := zI 1) hx hb dX3_runs_65 rfl ?_
                refine z_icmp_ne (tgt := 83) hx hb (by omega) dX3_runs_66 (by decide) (fun c_66 => ?_) (fun c_66 => ?_)
                · refine lv_iload hx hb dX3_runs_83 (lv_at hl 0 rfl) ?_
                  rw [← hQf]
                  exact z_iret K hS (((n : Nat) : Int), f_1) ⟨(by rw [hfr, if_neg (by omega), fRn, if_neg (by omega)]; first | (rw [if_pos (by omega), hpa]; done) | rw [if_neg (by omega)]), (by (try dsimp only); omega)⟩ hP hD dX3_runs_85
                · refine lv_aload_n hx hb dX3_runs_69 rfl (lv_at hl 1 rfl) ?_
                  refine va_get (D := D) (ci := 3) (v := .ref (b 1)) (C := RX3) (T := TX3) (N := 10) hx hb hts inT_X3 hown hE.1 hP 0 rfl rfl 1 (by decide) (hts _ qf_X3_19) (fun _ h9 => h9) rfl dX3_runs_70 ?_
                  refine lv_aload_n hx hb dX3_runs_73 rfl (lv_at hl 1 rfl) ?_
                  refine va_get (D := D) (ci := 3) (v := .ref (b 3)) (C := RX3) (T := TX3) (N := 10) hx hb hts inT_X3 hown hE.1 hP 0 rfl rfl 6 (by decide) (hts _ qf_X3_29) (fun _ h9 => h9) rfl dX3_runs_74 ?_
                  refine zcall_i (wc := [cT (b 1) aN ((n : Nat) : Int) ((k : Nat) : Int) ((d : Nat) : Int) ((v : Nat) : Int), cR cI (aN 3) 12 g3, cW (b 3) wa ((n : Nat) : Int), cR cI wa 12 f_1]) (wr := [cX x b ik rr hc, cR cI (aN 2) 72 g2]) (rest := []) hE hP hD hS hA [1, 3, 4, 5] [0, 2] [0, 2, 1, 3, 4, 5] rfl rfl (by decide) (by decide) (by decide) (fun (u : Unit) => [cX x b ik rr hc, cT (b 1) aN ((n : Nat) : Int) ((k : Nat) : Int) ((d : Nat) : Int) ((v : Nat) : Int), cR cI (aN 2) 72 g2, cR cI (aN 3) 12 g3, cW (b 3) wa ((n : Nat) : Int), cR cI wa 12 f_1]) (fun u => rfl) (fun hPc hDc => zrunVN (As := [.ref (b 3)]) (rest := []) (q0 := 0) (ci := 1) K k_X1_topBehind nk_X3_195 ⟨⟨rfl, rfl⟩, ⟨Nat.le_of_ble_eq_true rfl, Nat.le_of_ble_eq_true rfl⟩⟩ rfl rfl hPc hDc (c_X1_topBehind l D cI (b 1) aN n k d v g3 π (b 3) wa ((n : Nat) : Int) f_1 (wq (mus n κ ν) k q2 q1) r0 (by first | assumption | omega) (by first | assumption | omega) (by first | assumption | omega) hf2_43 hwl hwi (by first | assumption | omega) hr1 _) rfl hl.1 rfl (Nat.le_of_ble_eq_true rfl) dX3_runs_77 ⟨Nat.zero_le _, Nat.zero_le _⟩) (by decide) (fun z u H locs hpost hP hD hS => ?_)
                  subst hpost
                  have hP : va_P D cls [cX x b ik rr hc, cT (b 1) aN ((n : Nat) : Int) ((k : Nat) : Int) ((d : Nat) : Int) ((v : Nat) : Int), cR cI (aN 2) 72 g2, cR cI (aN 3) 12 g3, cW (b 3) wa ((n : Nat) : Int), cR cI wa 12 f_1] H := hP
                  have hD : va_D (va_A [cX x b ik rr hc, cT (b 1) aN ((n : Nat) : Int) ((k : Nat) : Int) ((d : Nat) : Int) ((v : Nat) : Int), cR cI (aN 2) 72 g2, cR cI (aN 3) 12 g3, cW (b 3) wa w0, cR cI wa 12 gw] sz) [cX x b ik rr hc, cT (b 1) aN ((n : Nat) : Int) ((k : Nat) : Int) ((d : Nat) : Int) ((v : Nat) : Int), cR cI (aN 2) 72 g2, cR cI (aN 3) 12 g3, cW (b 3) wa ((n : Nat) : Int), cR cI wa 12 f_1] := hD
                  refine W.eq (g2 := F0 m 80 ls [.int (zI (((π r0) : Nat) : Int))]) rfl ?_
                  refine lv_goto (tgt := 85) hx hb dX3_runs_80 (by decide) ?_
                  rw [← hQf]
                  exact z_iret K hS (((n : Nat) : Int), f_1) ⟨(by rw [hfr, if_neg (by omega), fRn, if_neg (by omega)]; first | (rw [if_pos (by omega), hpa]; done) | rw [if_neg (by omega)]), (by (try dsimp only); omega)⟩ hP hD dX3_runs_85
              · refine lv_aload_n hx hb dX3_runs_52 rfl (lv_at hl 1 rfl) ?_
                refine va_get (D := D) (ci := 3) (v := .ref (b 1)) (C := RX3) (T := TX3) (N := 10) hx hb hts inT_X3 hown hE.1 hP 0 rfl rfl 1 (by decide) (hts _ qf_X3_19) (fun _ h9 => h9) rfl dX3_runs_53 ?_
                refine lv_aload_n hx hb dX3_runs_56 rfl (lv_at hl 1 rfl) ?_
                refine va_get (D := D) (ci := 3) (v := .ref (b 3)) (C := RX3) (T := TX3) (N := 10) hx hb hts inT_X3 hown hE.1 hP 0 rfl rfl 6 (by decide) (hts _ qf_X3_29) (fun _ h9 => h9) rfl dX3_runs_57 ?_
                refine zcall_i (wc := [cT (b 1) aN ((n : Nat) : Int) ((k : Nat) : Int) ((d : Nat) : Int) ((v : Nat) : Int), cR cI (aN 3) 12 g3, cW (b 3) wa ((n : Nat) : Int), cR cI wa 12 f_1]) (wr := [cX x b ik rr hc, cR cI (aN 2) 72 g2]) (rest := []) hE hP hD hS hA [1, 3, 4, 5] [0, 2] [0, 2, 1, 3, 4, 5] rfl rfl (by decide) (by decide) (by decide) (fun (u : Unit) => [cX x b ik rr hc, cT (b 1) aN ((n : Nat) : Int) ((k : Nat) : Int) ((d : Nat) : Int) ((v : Nat) : Int), cR cI (aN 2) 72 g2, cR cI (aN 3) 12 g3, cW (b 3) wa ((n : Nat) : Int), cR cI wa 12 f_1]) (fun u => rfl) (fun hPc hDc => zrunVN (As := [.ref (b 3)]) (rest := []) (q0 := 0) (ci := 1) K k_X1_asAtFirstBehind nk_X3_191 ⟨⟨rfl, rfl⟩, ⟨Nat.le_of_ble_eq_true rfl, Nat.le_of_ble_eq_true rfl⟩⟩ rfl rfl hPc hDc (c_X1_asAtFirstBehind l D cI (b 1) aN n k d v g3 π (b 3) wa ((n : Nat) : Int) f_1 (wq (mus n κ ν) k q2 q1) (by first | assumption | omega) (by first | assumption | omega) (by first | assumption | omega) hf2_43 hwl _) rfl hl.1 rfl (Nat.le_of_ble_eq_true rfl) dX3_runs_60 ⟨Nat.zero_le _, Nat.zero_le _⟩) (by decide) (fun z u H locs hpost hP hD hS => ?_)
                subst hpost
                have hP : va_P D cls [cX x b ik rr hc, cT (b 1) aN ((n : Nat) : Int) ((k : Nat) : Int) ((d : Nat) : Int) ((v : Nat) : Int), cR cI (aN 2) 72 g2, cR cI (aN 3) 12 g3, cW (b 3) wa ((n : Nat) : Int), cR cI wa 12 f_1] H := hP
                have hD : va_D (va_A [cX x b ik rr hc, cT (b 1) aN ((n : Nat) : Int) ((k : Nat) : Int) ((d : Nat) : Int) ((v : Nat) : Int), cR cI (aN 2) 72 g2, cR cI (aN 3) 12 g3, cW (b 3) wa w0, cR cI wa 12 gw] sz) [cX x b ik rr hc, cT (b 1) aN ((n : Nat) : Int) ((k : Nat) : Int) ((d : Nat) : Int) ((v : Nat) : Int), cR cI (aN 2) 72 g2, cR cI (aN 3) 12 g3, cW (b 3) wa ((n : Nat) : Int), cR cI wa 12 f_1] := hD
                refine W.eq (g2 := F0 m 63 ls [.int (zI (((fb_ct (fun j => decide (π j = (wq (mus n κ ν) k q2 q1) j)) n) : Nat) : Int))]) rfl ?_
                rw [← hQf]
                exact z_iret K hS (((n : Nat) : Int), f_1) ⟨(by rw [hfr, if_neg (by omega), fRn, if_pos (by omega)]), (by (try dsimp only); omega)⟩ hP hD dX3_runs_63
            · have b_34 := b01_eq c_34
              refine lv_bipush (v := zI (-103)) hx hb dX3_runs_37 (by decide) ?_
              rw [← hQf]
              exact z_iret K hS (w0, gw) ⟨(by rw [hfr, if_pos (by omega)]), (by (try dsimp only); omega)⟩ hP hD dX3_runs_39
          · refine lv_bipush (v := zI (-102)) hx hb dX3_runs_24 (by decide) ?_
            rw [← hQf]
            exact z_iret K hS (w0, gw) ⟨(by rw [fRuns, if_neg (by omega)]), (by (try dsimp only); omega)⟩ hP hD dX3_runs_26
set_option maxHeartbeats 4000000 in
set_option maxRecDepth 100000 in
theorem c_X3_count (l : Launch) (D : va_G) (cI : ClassId) (x : Nat) (b : Nat → Nat) (ik : Int) (rr hc : Nat) (aN : Nat → Nat) (n k d v : Nat) (g0 g1 g2 g3 g4 g5 g6 : Nat → Int) (κ ν π ss sf st : Nat → Nat) (lp pl : Nat) (y1 : Int) (hT : TI n k d v g0 g1 g2 g3 g4 g5 g6 κ ν π ss sf st) (hy1 : -2147483648 ≤ y1 ∧ y1 < 2147483648) (hpl : pl ≤ 22) (hrr : rr ≤ 5000) (hhc : hc ≤ 30) : zMi l yX3_count cX3_count 2 (some .int) ({ frames := 1, cells := 0, slots := 0, locals := 23 }) D cI [.ref x, .int (zI y1)] [cX x b ik ((rr : Nat) : Int) ((hc : Nat) : Int), cP (b 0) lp ((pl : Nat) : Int), cT (b 1) aN ((n : Nat) : Int) ((k : Nat) : Int) ((d : Nat) : Int) ((v : Nat) : Int), cR cI (aN 3) 12 g3] (fun (z : Int) (u : Unit) => (z = (fCount n k d v π pl rr hc y1)) ∧ (-2147483648 ≤ z ∧ z < 2147483648)) (fun (u : Unit) => [cX x b ik ((rr : Nat) : Int) ((hc : Nat) : Int), cP (b 0) lp ((pl : Nat) : Int), cT (b 1) aN ((n : Nat) : Int) ((k : Nat) : Int) ((d : Nat) : Int) ((v : Nat) : Int), cR cI (aN 3) 12 g3]) := by
  intro sz
  refine zstart rfl (by decide) (Nat.le_of_ble_eq_true rfl) ?_
  intro p e s m below meth c ls K hnm hsz hP hD hS hl
  generalize hargs : ([.ref x, .int (zI y1)] : List Value).toArray = args at K ⊢
  generalize hQf : MQ below _ args s _ _ _ = Qf
  have K : zK p s m args meth c cX3_count 2 RX3 (some .int) D cI := K
  obtain ⟨hx, hb, hml, hown, hts, hE, -, -⟩ := id K
  have hA := zhA (ws0 := [cX x b ik ((rr : Nat) : Int) ((hc : Nat) : Int), cP (b 0) lp ((pl : Nat) : Int), cT (b 1) aN ((n : Nat) : Int) ((k : Nat) : Int) ((d : Nat) : Int) ((v : Nat) : Int), cR cI (aN 3) 12 g3]) hsz
  have hl : lv_has ls 2 [(0, .ref x), (1, .int (zI y1))] := hl
  obtain ⟨hnk, hd, hv, hg0, hκ, hg1, hν, hg2, hg3, hπ, hπi, hg4, hss, hg5, hsf, hg6, hst⟩ := id hT
  have hn : n ≤ 12 := by omega
  have hk : k ≤ 6 := by omega
  have hμ := mus_lt (k := k) hn hκ hν
  have hμi := mus_inj (k := k) hn hκ hν
  have hρ : ∀ j, j < n → rdc (mus n κ ν) k j < n := fun j hj => rdc_lt hμ (Nat.le_refl k) hj
  have hρi : inj (rdc (mus n κ ν) k) n := rdc_inj hμ hμi (Nat.le_refl k)
  have hct := fb_ct_le (fun j => decide (π j = j)) n
  have hsm := sm_ct_le (π := π) n hn
  refine lv_iload_n hx hb dX3_count_0 rfl (lv_at hl 1 rfl) ?_
  rcases (show y1 = 0 ∨ y1 = 1 ∨ y1 = 2 ∨ y1 = 3 ∨ y1 = 4 ∨ y1 = 5 ∨ y1 = 6 ∨ y1 = 7 ∨ y1 = 8 ∨ (y1 ≠ 0 ∧ y1 ≠ 1 ∧ y1 ≠ 2 ∧ y1 ≠ 3 ∧ y1 ≠ 4 ∧ y1 ≠ 5 ∧ y1 ≠ 6 ∧ y1 ≠ 7 ∧ y1 ≠ 8) by omega) with c_1 | c_1 | c_1 | c_1 | c_1 | c_1 | c_1 | c_1 | c_1 | c_1
  · refine lv_tableIn (tgt := 52) hx hb dX3_count_1 (by rw [zI_toInt (by omega)]; omega) (by rw [zI_toInt (by omega)]; omega) (by rw [zI_toInt (by omega), c_1]; rfl) (by decide) ?_
    refine lv_aload_n hx hb dX3_count_52 rfl (lv_at hl 0 rfl) ?_
    refine va_get (D := D) (ci := 3) (v := .ref (b 1)) (C := RX3) (T := TX3) (N := 10) hx hb hts inT_X3 hown hE.1 hP 0 rfl rfl 1 (by decide) (hts _ qf_X3_19) (fun _ h9 => h9) rfl dX3_count_53 ?_
    refine va_getN (D := D) (ci := 1) (v := .int (zI ((n : Nat) : Int))) (C := RX1) (T := TX1) (N := 11) hx hb hts inT_X1 hown hE.1 hP 2 rfl rfl 0 (by decide) (va_Nw.use rfl (hE.2 _ nf_X3_201 rfl)) (fun _ h9 => h9) rfl dX3_count_56 ?_
    rw [← hQf]
    exact z_iret K hS () ⟨(by rw [c_1]; rfl), (by omega)⟩ hP hD dX3_count_59
  · refine lv_tableIn (tgt := 60) hx hb dX3_count_1 (by rw [zI_toInt (by omega)]; omega) (by rw [zI_toInt (by omega)]; omega) (by rw [zI_toInt (by omega), c_1]; rfl) (by decide) ?_
    refine lv_aload_n hx hb dX3_count_60 rfl (lv_at hl 0 rfl) ?_
    refine va_get (D := D) (ci := 3) (v := .ref (b 1)) (C := RX3) (T := TX3) (N := 10) hx hb hts inT_X3 hown hE.1 hP 0 rfl rfl 1 (by decide) (hts _ qf_X3_19) (fun _ h9 => h9) rfl dX3_count_61 ?_
    refine va_getN (D := D) (ci := 1) (v := .int (zI ((k : Nat) : Int))) (C := RX1) (T := TX1) (N := 11) hx hb hts inT_X1 hown hE.1 hP 2 rfl rfl 1 (by decide) (va_Nw.use rfl (hE.2 _ nf_X3_73 rfl)) (fun _ h9 => h9) rfl dX3_count_64 ?_
    rw [← hQf]
    exact z_iret K hS () ⟨(by rw [c_1]; rfl), (by omega)⟩ hP hD dX3_count_67
  · refine lv_tableIn (tgt := 68) hx hb dX3_count_1 (by rw [zI_toInt (by omega)]; omega) (by rw [zI_toInt (by omega)]; omega) (by rw [zI_toInt (by omega), c_1]; rfl) (by decide) ?_
    refine lv_aload_n hx hb dX3_count_68 rfl (lv_at hl 0 rfl) ?_
    refine va_get (D := D) (ci := 3) (v := .ref (b 1)) (C := RX3) (T := TX3) (N := 10) hx hb hts inT_X3 hown hE.1 hP 0 rfl rfl 1 (by decide) (hts _ qf_X3_19) (fun _ h9 => h9) rfl dX3_count_69 ?_
    refine zcall_i (wc := [cT (b 1) aN ((n : Nat) : Int) ((k : Nat) : Int) ((d : Nat) : Int) ((v : Nat) : Int), cR cI (aN 3) 12 g3]) (wr := [cX x b ik ((rr : Nat) : Int) ((hc : Nat) : Int), cP (b 0) lp ((pl : Nat) : Int)]) (rest := []) hE hP hD hS hA [2, 3] [0, 1] [0, 1, 2, 3] rfl rfl (by decide) (by decide) (by decide) (fun (u : Unit) => [cX x b ik ((rr : Nat) : Int) ((hc : Nat) : Int), cP (b 0) lp ((pl : Nat) : Int), cT (b 1) aN ((n : Nat) : Int) ((k : Nat) : Int) ((d : Nat) : Int) ((v : Nat) : Int), cR cI (aN 3) 12 g3]) (fun u => rfl) (fun hPc hDc => zrunVN (As := []) (rest := []) (q0 := 0) (ci := 1) K k_X1_asAtFirst nk_X3_131 ⟨⟨rfl, rfl⟩, ⟨Nat.le_of_ble_eq_true rfl, Nat.le_of_ble_eq_true rfl⟩⟩ rfl rfl hPc hDc (c_X1_asAtFirst l D cI (b 1) aN n k d v g3 π (by first | assumption | omega) (by first | assumption | omega) (by first | assumption | omega) _) rfl hl.1 rfl (Nat.le_of_ble_eq_true rfl) dX3_count_72 ⟨Nat.zero_le _, Nat.zero_le _⟩) (by decide) (fun z u H locs hpost hP hD hS => ?_)
    subst hpost
    have hP : va_P D cls [cX x b ik ((rr : Nat) : Int) ((hc : Nat) : Int), cP (b 0) lp ((pl : Nat) : Int), cT (b 1) aN ((n : Nat) : Int) ((k : Nat) : Int) ((d : Nat) : Int) ((v : Nat) : Int), cR cI (aN 3) 12 g3] H := hP
    have hD : va_D (va_A [cX x b ik ((rr : Nat) : Int) ((hc : Nat) : Int), cP (b 0) lp ((pl : Nat) : Int), cT (b 1) aN ((n : Nat) : Int) ((k : Nat) : Int) ((d : Nat) : Int) ((v : Nat) : Int), cR cI (aN 3) 12 g3] sz) [cX x b ik ((rr : Nat) : Int) ((hc : Nat) : Int), cP (b 0) lp ((pl : Nat) : Int), cT (b 1) aN ((n : Nat) : Int) ((k : Nat) : Int) ((d : Nat) : Int) ((v : Nat) : Int), cR cI (aN 3) 12 g3] := hD
    refine W.eq (g2 := F0 m 75 ls [.int (zI (((fb_ct (fun j => decide (π j = j)) n) : Nat) : Int))]) rfl ?_
    rw [← hQf]
    exact z_iret K hS () ⟨(by rw [c_1]; rfl), (by omega)⟩ hP hD dX3_count_75
  · refine lv_tableIn (tgt := 76) hx hb dX3_count_1 (by rw [zI_toInt (by omega)]; omega) (by rw [zI_toInt (by omega)]; omega) (by rw [zI_toInt (by omega), c_1]; rfl) (by decide) ?_
    refine lv_aload_n hx hb dX3_count_76 rfl (lv_at hl 0 rfl) ?_
    refine va_get (D := D) (ci := 3) (v := .ref (b 1)) (C := RX3) (T := TX3) (N := 10) hx hb hts inT_X3 hown hE.1 hP 0 rfl rfl 1 (by decide) (hts _ qf_X3_19) (fun _ h9 => h9) rfl dX3_count_77 ?_
    refine zcall_i (wc := [cT (b 1) aN ((n : Nat) : Int) ((k : Nat) : Int) ((d : Nat) : Int) ((v : Nat) : Int), cR cI (aN 3) 12 g3]) (wr := [cX x b ik ((rr : Nat) : Int) ((hc : Nat) : Int), cP (b 0) lp ((pl : Nat) : Int)]) (rest := []) hE hP hD hS hA [2, 3] [0, 1] [0, 1, 2, 3] rfl rfl (by decide) (by decide) (by decide) (fun (u : Unit) => [cX x b ik ((rr : Nat) : Int) ((hc : Nat) : Int), cP (b 0) lp ((pl : Nat) : Int), cT (b 1) aN ((n : Nat) : Int) ((k : Nat) : Int) ((d : Nat) : Int) ((v : Nat) : Int), cR cI (aN 3) 12 g3]) (fun u => rfl) (fun hPc hDc => zrunVN (As := []) (rest := []) (q0 := 0) (ci := 1) K k_X1_wrongTwos nk_X3_204 ⟨⟨rfl, rfl⟩, ⟨Nat.le_of_ble_eq_true rfl, Nat.le_of_ble_eq_true rfl⟩⟩ rfl rfl hPc hDc (c_X1_wrongTwos l D cI (b 1) aN n k d v g3 π (by first | assumption | omega) (by first | assumption | omega) (by first | assumption | omega) _) rfl hl.1 rfl (Nat.le_of_ble_eq_true rfl) dX3_count_80 ⟨Nat.zero_le _, Nat.zero_le _⟩) (by decide) (fun z u H locs hpost hP hD hS => ?_)
    subst hpost
    have hP : va_P D cls [cX x b ik ((rr : Nat) : Int) ((hc : Nat) : Int), cP (b 0) lp ((pl : Nat) : Int), cT (b 1) aN ((n : Nat) : Int) ((k : Nat) : Int) ((d : Nat) : Int) ((v : Nat) : Int), cR cI (aN 3) 12 g3] H := hP
    have hD : va_D (va_A [cX x b ik ((rr : Nat) : Int) ((hc : Nat) : Int), cP (b 0) lp ((pl : Nat) : Int), cT (b 1) aN ((n : Nat) : Int) ((k : Nat) : Int) ((d : Nat) : Int) ((v : Nat) : Int), cR cI (aN 3) 12 g3] sz) [cX x b ik ((rr : Nat) : Int) ((hc : Nat) : Int), cP (b 0) lp ((pl : Nat) : Int), cT (b 1) aN ((n : Nat) : Int) ((k : Nat) : Int) ((d : Nat) : Int) ((v : Nat) : Int), cR cI (aN 3) 12 g3] := hD
    refine W.eq (g2 := F0 m 83 ls [.int (zI (((fb_sm (fun b => fb_ct (fun aN => decide (π b < π aN)) b) n) : Nat) : Int))]) rfl ?_
    rw [← hQf]
    exact z_iret K hS () ⟨(by rw [c_1]; rfl), (by omega)⟩ hP hD dX3_count_83
  · refine lv_tableIn (tgt := 84) hx hb dX3_count_1 (by rw [zI_toInt (by omega)]; omega) (by rw [zI_toInt (by omega)]; omega) (by rw [zI_toInt (by omega), c_1]; rfl) (by decide) ?_
    refine lv_aload_n hx hb dX3_count_84 rfl (lv_at hl 0 rfl) ?_
    refine va_get (D := D) (ci := 3) (v := .ref (b 1)) (C := RX3) (T := TX3) (N := 10) hx hb hts inT_X3 hown hE.1 hP 0 rfl rfl 1 (by decide) (hts _ qf_X3_19) (fun _ h9 => h9) rfl dX3_count_85 ?_
    refine va_getN (D := D) (ci := 1) (v := .int (zI ((d : Nat) : Int))) (C := RX1) (T := TX1) (N := 11) hx hb hts inT_X1 hown hE.1 hP 2 rfl rfl 2 (by decide) (va_Nw.use rfl (hE.2 _ nf_X3_117 rfl)) (fun _ h9 => h9) rfl dX3_count_88 ?_
    rw [← hQf]
    exact z_iret K hS () ⟨(by rw [c_1]; rfl), (by omega)⟩ hP hD dX3_count_91
  · refine lv_tableIn (tgt := 92) hx hb dX3_count_1 (by rw [zI_toInt (by omega)]; omega) (by rw [zI_toInt (by omega)]; omega) (by rw [zI_toInt (by omega), c_1]; rfl) (by decide) ?_
    refine lv_aload_n hx hb dX3_count_92 rfl (lv_at hl 0 rfl) ?_
    refine va_get (D := D) (ci := 3) (v := .ref (b 1)) (C := RX3) (T := TX3) (N := 10) hx hb hts inT_X3 hown hE.1 hP 0 rfl rfl 1 (by decide) (hts _ qf_X3_19) (fun _ h9 => h9) rfl dX3_count_93 ?_
    refine va_getN (D := D) (ci := 1) (v := .int (zI ((v : Nat) : Int))) (C := RX1) (T := TX1) (N := 11) hx hb hts inT_X1 hown hE.1 hP 2 rfl rfl 3 (by decide) (va_Nw.use rfl (hE.2 _ nf_X3_182 rfl)) (fun _ h9 => h9) rfl dX3_count_96 ?_
    rw [← hQf]
    exact z_iret K hS () ⟨(by rw [c_1]; rfl), (by omega)⟩ hP hD dX3_count_99
  · refine lv_tableIn (tgt := 100) hx hb dX3_count_1 (by rw [zI_toInt (by omega)]; omega) (by rw [zI_toInt (by omega)]; omega) (by rw [zI_toInt (by omega), c_1]; rfl) (by decide) ?_
    refine lv_aload_n hx hb dX3_count_100 rfl (lv_at hl 0 rfl) ?_
    refine va_get (D := D) (ci := 3) (v := .ref (b 0)) (C := RX3) (T := TX3) (N := 10) hx hb hts inT_X3 hown hE.1 hP 0 rfl rfl 0 (by decide) (hts _ qf_X3_10) (fun _ h9 => h9) rfl dX3_count_101 ?_
    refine va_getN (D := D) (ci := 0) (v := .int (zI ((pl : Nat) : Int))) (C := RX0) (T := TX0) (N := 2) hx hb hts inT_X0 hown hE.1 hP 1 rfl rfl 1 (by decide) (va_Nw.use rfl (hE.2 _ nf_X3_43 rfl)) (fun _ h9 => h9) rfl dX3_count_104 ?_
    rw [← hQf]
    exact z_iret K hS () ⟨(by rw [c_1]; rfl), (by omega)⟩ hP hD dX3_count_107
  · refine lv_tableIn (tgt := 108) hx hb dX3_count_1 (by rw [zI_toInt (by omega)]; omega) (by rw [zI_toInt (by omega)]; omega) (by rw [zI_toInt (by omega), c_1]; rfl) (by decide) ?_
    refine lv_aload_n hx hb dX3_count_108 rfl (lv_at hl 0 rfl) ?_
    refine va_get (D := D) (ci := 3) (v := .int (zI ((rr : Nat) : Int))) (C := RX3) (T := TX3) (N := 10) hx hb hts inT_X3 hown hE.1 hP 0 rfl rfl 4 (by decide) (hts _ qf_X3_70) (fun _ h9 => h9) rfl dX3_count_109 ?_
    rw [← hQf]
    exact z_iret K hS () ⟨(by rw [c_1]; rfl), (by omega)⟩ hP hD dX3_count_112
  · refine lv_tableIn (tgt := 113) hx hb dX3_count_1 (by rw [zI_toInt (by omega)]; omega) (by rw [zI_toInt (by omega)]; omega) (by rw [zI_toInt (by omega), c_1]; rfl) (by decide) ?_
    refine lv_aload_n hx hb dX3_count_113 rfl (lv_at hl 0 rfl) ?_
    refine va_get (D := D) (ci := 3) (v := .int (zI ((hc : Nat) : Int))) (C := RX3) (T := TX3) (N := 10) hx hb hts inT_X3 hown hE.1 hP 0 rfl rfl 5 (by decide) (hts _ qf_X3_166) (fun _ h9 => h9) rfl dX3_count_114 ?_
    rw [← hQf]
    exact z_iret K hS () ⟨(by rw [c_1]; rfl), (by omega)⟩ hP hD dX3_count_117
  · refine lv_tableOut (tgt := 118) hx hb dX3_count_1 (by rw [zI_toInt (by omega)]; omega) (by decide) ?_
    refine lv_bipush (v := zI (-102)) hx hb dX3_count_118 (by decide) ?_
    rw [← hQf]
    exact z_iret K hS () ⟨(by simp only [fCount]; rw [if_neg (by omega), if_neg (by omega), if_neg (by omega), if_neg (by omega), if_neg (by omega), if_neg (by omega), if_neg (by omega), if_neg (by omega), if_neg (by omega)]), (by omega)⟩ hP hD dX3_count_120
set_option maxHeartbeats 4000000 in
set_option maxRecDepth 100000 in
theorem c_X3_digestOfSteps (l : Launch) (D : va_G) (cI : ClassId) (x : Nat) (b : Nat → Nat) (ik rr hc : Int) (aN : Nat → Nat) (n k d v : Nat) (g0 g1 g2 g3 g4 g5 g6 : Nat → Int) (κ ν π ss sf st : Nat → Nat) (wa : Nat) (w0 : Int) (gw : Nat → Int) (gt : Nat → Int) (h0 : Int) (hT : TI n k d v g0 g1 g2 g3 g4 g5 g6 κ ν π ss sf st) : zMl l yX3_digestOfSteps cX3_digestOfSteps 7 (some .long) ({ frames := 6, cells := 0, slots := 0, locals := 148 }) D cI [.ref x, .long (zL h0)] [cX x b ik rr hc, cT (b 1) aN ((n : Nat) : Int) ((k : Nat) : Int) ((d : Nat) : Int) ((v : Nat) : Int), cR cI (aN 0) 6 g0, cR cI (aN 1) 6 g1, cR cI (aN 2) 72 g2, cR cI (aN 4) 6 g4, cR cI (aN 5) 6 g5, cR cI (aN 6) 6 g6, cW (b 3) wa w0, cR cI wa 12 gw, cR cI (b 4) 12 gt] (fun (z : Int) (u : (Int) × (Nat → Int) × (Nat → Int)) => z = (fDs n k κ ν v ss sf st h0)) (fun (u : (Int) × (Nat → Int) × (Nat → Int)) => [cX x b ik rr hc, cT (b 1) aN ((n : Nat) : Int) ((k : Nat) : Int) ((d : Nat) : Int) ((v : Nat) : Int), cR cI (aN 0) 6 g0, cR cI (aN 1) 6 g1, cR cI (aN 2) 72 g2, cR cI (aN 4) 6 g4, cR cI (aN 5) 6 g5, cR cI (aN 6) 6 g6, cW (b 3) wa u.1, cR cI wa 12 u.2.1, cR cI (b 4) 12 u.2.2]) := by
  intro sz
  refine zstart rfl (by decide) (Nat.le_of_ble_eq_true rfl) ?_
  intro p e s m below meth c ls K hnm hsz hP hD hS hl
  generalize hargs : ([.ref x, .long (zL h0)] : List Value).toArray = args at K ⊢
  generalize hQf : MQ below _ args s _ _ _ = Qf
  have K : zK p s m args meth c cX3_digestOfSteps 7 RX3 (some .long) D cI := K
  obtain ⟨hx, hb, hml, hown, hts, hE, -, -⟩ := id K
  have hA := zhA (ws0 := [cX x b ik rr hc, cT (b 1) aN ((n : Nat) : Int) ((k : Nat) : Int) ((d : Nat) : Int) ((v : Nat) : Int), cR cI (aN 0) 6 g0, cR cI (aN 1) 6 g1, cR cI (aN 2) 72 g2, cR cI (aN 4) 6 g4, cR cI (aN 5) 6 g5, cR cI (aN 6) 6 g6, cW (b 3) wa w0, cR cI wa 12 gw, cR cI (b 4) 12 gt]) hsz
  have hl : lv_has ls 7 [(0, .ref x), (1, .long (zL h0))] := hl
  obtain ⟨hnk, -⟩ := id hT
  refine lv_lload_n hx hb dX3_digestOfSteps_0 rfl (lv_at hl 1 rfl) ?_
  refine lv_lstore_n (lv' := [(3, .long (zL h0)), (0, .ref x), (1, .long (zL h0))]) hx hb dX3_digestOfSteps_1 rfl hl (by decide) rfl (fun ls hl => ?_)
  refine lv_iconst (v := zI 0) hx hb dX3_digestOfSteps_2 rfl ?_
  refine lv_istore (lv' := [(5, .int (zI 0)), (3, .long (zL h0)), (0, .ref x), (1, .long (zL h0))]) hx hb dX3_digestOfSteps_3 hl (by decide) rfl (fun ls hl => ?_)
  have cut_5 : ∀ (N_5 : Nat), ∀ (i : Nat) (y ow1 : Int) (of1 ot1 : Nat → Int), k - i < N_5 → (i ≤ k) → (y = hS6 (fun q w => fStep n k κ ν v ss sf st (q : Int) (w : Int)) i h0) → ∀ (H : Heap) (locs : List Loc) (ls : Array Slot), va_P D cls [cX x b ik rr hc, cT (b 1) aN ((n : Nat) : Int) ((k : Nat) : Int) ((d : Nat) : Int) ((v : Nat) : Int), cR cI (aN 0) 6 g0, cR cI (aN 1) 6 g1, cR cI (aN 2) 72 g2, cR cI (aN 4) 6 g4, cR cI (aN 5) 6 g5, cR cI (aN 6) 6 g6, cW (b 3) wa ow1, cR cI wa 12 of1, cR cI (b 4) 12 ot1] H → va_D (va_A [cX x b ik rr hc, cT (b 1) aN ((n : Nat) : Int) ((k : Nat) : Int) ((d : Nat) : Int) ((v : Nat) : Int), cR cI (aN 0) 6 g0, cR cI (aN 1) 6 g1, cR cI (aN 2) 72 g2, cR cI (aN 4) 6 g4, cR cI (aN 5) 6 g5, cR cI (aN 6) 6 g6, cW (b 3) wa w0, cR cI wa 12 gw, cR cI (b 4) 12 gt] sz) [cX x b ik rr hc, cT (b 1) aN ((n : Nat) : Int) ((k : Nat) : Int) ((d : Nat) : Int) ((v : Nat) : Int), cR cI (aN 0) 6 g0, cR cI (aN 1) 6 g1, cR cI (aN 2) 72 g2, cR cI (aN 4) 6 g4, cR cI (aN 5) 6 g5, cR cI (aN 6) 6 g6, cW (b 3) wa ow1, cR cI wa 12 of1, cR cI (b 4) 12 ot1] → va_S (va_A [cX x b ik rr hc, cT (b 1) aN ((n : Nat) : Int) ((k : Nat) : Int) ((d : Nat) : Int) ((v : Nat) : Int), cR cI (aN 0) 6 g0, cR cI (aN 1) 6 g1, cR cI (aN 2) 72 g2, cR cI (aN 4) 6 g4, cR cI (aN 5) 6 g5, cR cI (aN 6) 6 g6, cW (b 3) wa w0, cR cI wa 12 gw, cR cI (b 4) 12 gt] sz) s.heap H locs → lv_has ls 7 [(0, .ref x), (1, .long (zL h0)), (3, .long (zL y)), (5, .int (zI ((i : Nat) : Int)))] → W p l e ({ frames := 6, cells := 0, slots := 0, locals := 148 }) s m args below meth c H locs 0 0 Qf (F0 m 5 ls []) := by
    intro N_5
    induction N_5 with
    | zero => intro i y ow1 of1 ot1 hm_5; exact absurd hm_5 (Nat.not_lt_zero _)
    | succ N_5 ih_5 =>
      intro i y ow1 of1 ot1 hm_5 hi hy H locs ls hP hD hS hl
      refine lv_iload hx hb dX3_digestOfSteps_5 (lv_at hl 3 rfl) ?_
      refine lv_aload_n hx hb dX3_digestOfSteps_7 rfl (lv_at hl 0 rfl) ?_
      refine va_get (D := D) (ci := 3) (v := .ref (b 1)) (C := RX3) (T := TX3) (N := 10) hx hb hts inT_X3 hown hE.1 hP 0 rfl rfl 1 (by decide) (hts _ qf_X3_19) (fun _ h9 => h9) rfl dX3_digestOfSteps_8 ?_
      refine va_getN (D := D) (ci := 1) (v := .int (zI ((k : Nat) : Int))) (C := RX1) (T := TX1) (N := 11) hx hb hts inT_X1 hown hE.1 hP 1 rfl rfl 1 (by decide) (va_Nw.use rfl (hE.2 _ nf_X3_73 rfl)) (fun _ h9 => h9) rfl dX3_digestOfSteps_11 ?_
      refine z_icmp_ge (tgt := 52) hx hb (by omega) dX3_digestOfSteps_14 (by decide) (fun c_14 => ?_) (fun c_14 => ?_)
      · refine lv_lload_n hx hb dX3_digestOfSteps_52 rfl (lv_at hl 2 rfl) ?_
        rw [← hQf]
        exact z_lret K hS (ow1, of1, ot1) (by rw [hy, show i = k by omega]; rfl) hP hD dX3_digestOfSteps_53
      · refine lv_iconst (v := zI 0) hx hb dX3_digestOfSteps_17 rfl ?_
        refine lv_istore (lv' := [(6, .int (zI 0)), (0, .ref x), (1, .long (zL h0)), (3, .long (zL y)), (5, .int (zI ((i : Nat) : Int)))]) hx hb dX3_digestOfSteps_18 hl (by decide) rfl (fun ls hl => ?_)
        have cut_20 : ∀ (N_20 : Nat), ∀ (i1 : Nat) (w ow2 : Int) (of2 ot2 : Nat → Int), 6 - i1 < N_20 → (i1 ≤ 6) → (w = hF (fun w => fStep n k κ ν v ss sf st (i : Int) (w : Int)) i1 y) → ∀ (H : Heap) (locs : List Loc) (ls : Array Slot), va_P D cls [cX x b ik rr hc, cT (b 1) aN ((n : Nat) : Int) ((k : Nat) : Int) ((d : Nat) : Int) ((v : Nat) : Int), cR cI (aN 0) 6 g0, cR cI (aN 1) 6 g1, cR cI (aN 2) 72 g2, cR cI (aN 4) 6 g4, cR cI (aN 5) 6 g5, cR cI (aN 6) 6 g6, cW (b 3) wa ow2, cR cI wa 12 of2, cR cI (b 4) 12 ot2] H → va_D (va_A [cX x b ik rr hc, cT (b 1) aN ((n : Nat) : Int) ((k : Nat) : Int) ((d : Nat) : Int) ((v : Nat) : Int), cR cI (aN 0) 6 g0, cR cI (aN 1) 6 g1, cR cI (aN 2) 72 g2, cR cI (aN 4) 6 g4, cR cI (aN 5) 6 g5, cR cI (aN 6) 6 g6, cW (b 3) wa w0, cR cI wa 12 gw, cR cI (b 4) 12 gt] sz) [cX x b ik rr hc, cT (b 1) aN ((n : Nat) : Int) ((k : Nat) : Int) ((d : Nat) : Int) ((v : Nat) : Int), cR cI (aN 0) 6 g0, cR cI (aN 1) 6 g1, cR cI (aN 2) 72 g2, cR cI (aN 4) 6 g4, cR cI (aN 5) 6 g5, cR cI (aN 6) 6 g6, cW (b 3) wa ow2, cR cI wa 12 of2, cR cI (b 4) 12 ot2] → va_S (va_A [cX x b ik rr hc, cT (b 1) aN ((n : Nat) : Int) ((k : Nat) : Int) ((d : Nat) : Int) ((v : Nat) : Int), cR cI (aN 0) 6 g0, cR cI (aN 1) 6 g1, cR cI (aN 2) 72 g2, cR cI (aN 4) 6 g4, cR cI (aN 5) 6 g5, cR cI (aN 6) 6 g6, cW (b 3) wa w0, cR cI wa 12 gw, cR cI (b 4) 12 gt] sz) s.heap H locs → lv_has ls 7 [(0, .ref x), (1, .long (zL h0)), (3, .long (zL w)), (5, .int (zI ((i : Nat) : Int))), (6, .int (zI ((i1 : Nat) : Int)))] → W p l e ({ frames := 6, cells := 0, slots := 0, locals := 148 }) s m args below meth c H locs 0 0 Qf (F0 m 20 ls []) := by
          intro N_20
          induction N_20 with
          | zero => intro i1 w ow2 of2 ot2 hm_20; exact absurd hm_20 (Nat.not_lt_zero _)
          | succ N_20 ih_20 =>
            intro i1 w ow2 of2 ot2 hm_20 hi1 hw H locs ls hP hD hS hl
            refine lv_iload hx hb dX3_digestOfSteps_20 (lv_at hl 4 rfl) ?_
            refine lv_iconst (v := zI 5) hx hb dX3_digestOfSteps_22 rfl ?_
            refine z_icmp_gt (tgt := 46) hx hb (by omega) dX3_digestOfSteps_23 (by decide) (fun c_23 => ?_) (fun c_23 => ?_)
            · refine z_iinc (k := 3) (lv' := [(5, .int (zI (((i + 1) : Nat) : Int))), (0, .ref x), (1, .long (zL h0)), (3, .long (zL w)), (6, .int (zI ((i1 : Nat) : Int)))]) hx hb (((i + 1) : Nat) : Int) (by omega) dX3_digestOfSteps_46 hl rfl (by decide) rfl (fun ls hl => ?_)
              refine lv_goto (tgt := 5) hx hb dX3_digestOfSteps_49 (by decide) ?_
              exact ih_5 (i + 1) w ow2 of2 ot2 (by omega) (by omega) (by rw [hw, hy, show i1 = 6 by omega]; rfl) _ _ _ hP hD hS (lv_sub hl [1, 2, 3, 0] rfl)
            · refine lv_lload_n hx hb dX3_digestOfSteps_26 rfl (lv_at hl 2 rfl) ?_
              refine lv_aload_n hx hb dX3_digestOfSteps_27 rfl (lv_at hl 0 rfl) ?_
              refine lv_iload hx hb dX3_digestOfSteps_28 (lv_at hl 3 rfl) ?_
              refine lv_iload hx hb dX3_digestOfSteps_30 (lv_at hl 4 rfl) ?_
              refine zcall_i (wc := [cX x b ik rr hc, cT (b 1) aN ((n : Nat) : Int) ((k : Nat) : Int) ((d : Nat) : Int) ((v : Nat) : Int), cR cI (aN 0) 6 g0, cR cI (aN 1) 6 g1, cR cI (aN 2) 72 g2, cR cI (aN 4) 6 g4, cR cI (aN 5) 6 g5, cR cI (aN 6) 6 g6, cW (b 3) wa ow2, cR cI wa 12 of2, cR cI (b 4) 12 ot2]) (wr := []) (rest := [.long (zL w)]) hE hP hD hS hA [0, 1, 2, 3, 4, 5, 6, 7, 8, 9, 10] [] [0, 1, 2, 3, 4, 5, 6, 7, 8, 9, 10] rfl rfl (by decide) (by decide) (by decide) (fun (u : (Int) × (Nat → Int) × (Nat → Int)) => [cX x b ik rr hc, cT (b 1) aN ((n : Nat) : Int) ((k : Nat) : Int) ((d : Nat) : Int) ((v : Nat) : Int), cR cI (aN 0) 6 g0, cR cI (aN 1) 6 g1, cR cI (aN 2) 72 g2, cR cI (aN 4) 6 g4, cR cI (aN 5) 6 g5, cR cI (aN 6) 6 g6, cW (b 3) wa u.1, cR cI wa 12 u.2.1, cR cI (b 4) 12 u.2.2]) (fun u => rfl) (fun hPc hDc => zrunV (As := [.int (zI ((i : Nat) : Int)), .int (zI ((i1 : Nat) : Int))]) (rest := [.long (zL w)]) (q0 := 0) (ci := 3) K k_X3_step qm_X3_229 ⟨⟨rfl, rfl⟩, ⟨Nat.le_of_ble_eq_true rfl, Nat.le_of_ble_eq_true rfl⟩⟩ rfl rfl hPc hDc (c_X3_step l D cI x b ik rr hc aN n k d v g0 g1 g2 g3 g4 g5 g6 κ ν π ss sf st wa ow2 of2 ot2 ((i : Nat) : Int) ((i1 : Nat) : Int) (by first | assumption | omega) (by first | assumption | omega) (by first | assumption | omega) _) rfl hl.1 rfl (Nat.le_of_ble_eq_true rfl) dX3_digestOfSteps_32 ⟨Nat.zero_le _, Nat.zero_le _⟩) (by decide) (fun z u H locs hpost hP hD hS => ?_)
              obtain ⟨ow_1, of_2, ot_3⟩ := u
              obtain ⟨rfl, hzr_32⟩ := hpost
              have hzr_32 : -2147483648 ≤ (fStep n k κ ν v ss sf st ((i : Nat) : Int) ((i1 : Nat) : Int)) ∧ (fStep n k κ ν v ss sf st ((i : Nat) : Int) ((i1 : Nat) : Int)) < 2147483648 := hzr_32
              have hP : va_P D cls [cX x b ik rr hc, cT (b 1) aN ((n : Nat) : Int) ((k : Nat) : Int) ((d : Nat) : Int) ((v : Nat) : Int), cR cI (aN 0) 6 g0, cR cI (aN 1) 6 g1, cR cI (aN 2) 72 g2, cR cI (aN 4) 6 g4, cR cI (aN 5) 6 g5, cR cI (aN 6) 6 g6, cW (b 3) wa ow_1, cR cI wa 12 of_2, cR cI (b 4) 12 ot_3] H := hP
              have hD : va_D (va_A [cX x b ik rr hc, cT (b 1) aN ((n : Nat) : Int) ((k : Nat) : Int) ((d : Nat) : Int) ((v : Nat) : Int), cR cI (aN 0) 6 g0, cR cI (aN 1) 6 g1, cR cI (aN 2) 72 g2, cR cI (aN 4) 6 g4, cR cI (aN 5) 6 g5, cR cI (aN 6) 6 g6, cW (b 3) wa w0, cR cI wa 12 gw, cR cI (b 4) 12 gt] sz) [cX x b ik rr hc, cT (b 1) aN ((n : Nat) : Int) ((k : Nat) : Int) ((d : Nat) : Int) ((v : Nat) : Int), cR cI (aN 0) 6 g0, cR cI (aN 1) 6 g1, cR cI (aN 2) 72 g2, cR cI (aN 4) 6 g4, cR cI (aN 5) 6 g5, cR cI (aN 6) 6 g6, cW (b 3) wa ow_1, cR cI wa 12 of_2, cR cI (b 4) 12 ot_3] := hD
              refine W.eq (g2 := F0 m 35 ls [.int (zI (fStep n k κ ν v ss sf st ((i : Nat) : Int) ((i1 : Nat) : Int))), .long (zL w)]) rfl ?_
              refine z_i2l hx hb (by omega) dX3_digestOfSteps_35 ?_
              refine zcall_l (wc := []) (wr := [cX x b ik rr hc, cT (b 1) aN ((n : Nat) : Int) ((k : Nat) : Int) ((d : Nat) : Int) ((v : Nat) : Int), cR cI (aN 0) 6 g0, cR cI (aN 1) 6 g1, cR cI (aN 2) 72 g2, cR cI (aN 4) 6 g4, cR cI (aN 5) 6 g5, cR cI (aN 6) 6 g6, cW (b 3) wa ow_1, cR cI wa 12 of_2, cR cI (b 4) 12 ot_3]) (rest := []) hE hP hD hS hA [] [0, 1, 2, 3, 4, 5, 6, 7, 8, 9, 10] [0, 1, 2, 3, 4, 5, 6, 7, 8, 9, 10] rfl rfl (by decide) (by decide) (by decide) (fun (u : Unit) => [cX x b ik rr hc, cT (b 1) aN ((n : Nat) : Int) ((k : Nat) : Int) ((d : Nat) : Int) ((v : Nat) : Int), cR cI (aN 0) 6 g0, cR cI (aN 1) 6 g1, cR cI (aN 2) 72 g2, cR cI (aN 4) 6 g4, cR cI (aN 5) 6 g5, cR cI (aN 6) 6 g6, cW (b 3) wa ow_1, cR cI wa 12 of_2, cR cI (b 4) 12 ot_3]) (fun u => rfl) (fun hPc hDc => zrunS (As := [.long (zL w), .long (zL (fStep n k κ ν v ss sf st ((i : Nat) : Int) ((i1 : Nat) : Int)))]) (rest := []) K k_X3_joined qm_X3_222 ⟨⟨rfl, rfl⟩, ⟨Nat.le_of_ble_eq_true rfl, Nat.le_of_ble_eq_true rfl⟩⟩ hPc hDc (c_X3_joined l D cI w (fStep n k κ ν v ss sf st ((i : Nat) : Int) ((i1 : Nat) : Int)) _) rfl hl.1 rfl (Nat.le_of_ble_eq_true rfl) dX3_digestOfSteps_36 ⟨Nat.zero_le _, Nat.zero_le _⟩) (by decide) (fun z u H locs hpost hP hD hS => ?_)
              subst hpost
              have hP : va_P D cls [cX x b ik rr hc, cT (b 1) aN ((n : Nat) : Int) ((k : Nat) : Int) ((d : Nat) : Int) ((v : Nat) : Int), cR cI (aN 0) 6 g0, cR cI (aN 1) 6 g1, cR cI (aN 2) 72 g2, cR cI (aN 4) 6 g4, cR cI (aN 5) 6 g5, cR cI (aN 6) 6 g6, cW (b 3) wa ow_1, cR cI wa 12 of_2, cR cI (b 4) 12 ot_3] H := hP
              have hD : va_D (va_A [cX x b ik rr hc, cT (b 1) aN ((n : Nat) : Int) ((k : Nat) : Int) ((d : Nat) : Int) ((v : Nat) : Int), cR cI (aN 0) 6 g0, cR cI (aN 1) 6 g1, cR cI (aN 2) 72 g2, cR cI (aN 4) 6 g4, cR cI (aN 5) 6 g5, cR cI (aN 6) 6 g6, cW (b 3) wa w0, cR cI wa 12 gw, cR cI (b 4) 12 gt] sz) [cX x b ik rr hc, cT (b 1) aN ((n : Nat) : Int) ((k : Nat) : Int) ((d : Nat) : Int) ((v : Nat) : Int), cR cI (aN 0) 6 g0, cR cI (aN 1) 6 g1, cR cI (aN 2) 72 g2, cR cI (aN 4) 6 g4, cR cI (aN 5) 6 g5, cR cI (aN 6) 6 g6, cW (b 3) wa ow_1, cR cI wa 12 of_2, cR cI (b 4) 12 ot_3] := hD
              refine W.eq (g2 := F0 m 39 ls [.long (zL (31 * w + (fStep n k κ ν v ss sf st ((i : Nat) : Int) ((i1 : Nat) : Int))))]) rfl ?_
              refine lv_lstore_n (lv' := [(3, .long (zL (31 * w + (fStep n k κ ν v ss sf st ((i : Nat) : Int) ((i1 : Nat) : Int))))), (0, .ref x), (1, .long (zL h0)), (5, .int (zI ((i : Nat) : Int))), (6, .int (zI ((i1 : Nat) : Int)))]) hx hb dX3_digestOfSteps_39 rfl hl (by decide) rfl (fun ls hl => ?_)
              refine z_iinc (k := 4) (lv' := [(6, .int (zI (((i1 + 1) : Nat) : Int))), (3, .long (zL (31 * w + (fStep n k κ ν v ss sf st ((i : Nat) : Int) ((i1 : Nat) : Int))))), (0, .ref x), (1, .long (zL h0)), (5, .int (zI ((i : Nat) : Int)))]) hx hb (((i1 + 1) : Nat) : Int) (by omega) dX3_digestOfSteps_40 hl rfl (by decide) rfl (fun ls hl => ?_)
              refine lv_goto (tgt := 20) hx hb dX3_digestOfSteps_43 (by decide) ?_
              exact ih_20 (i1 + 1) (31 * w + (fStep n k κ ν v ss sf st ((i : Nat) : Int) ((i1 : Nat) : Int))) ow_1 of_2 ot_3 (by omega) (by omega) (by rw [hw]; rfl) _ _ _ hP hD hS (lv_sub hl [2, 3, 1, 4, 0] rfl)
        exact cut_20 (6 - 0 + 1) 0 y ow1 of1 ot1 (Nat.lt_succ_self _) (by omega) (by rfl) _ _ _ hP hD hS (lv_sub hl [1, 2, 3, 4, 0] rfl)
  exact cut_5 (k - 0 + 1) 0 h0 w0 gw gt (Nat.lt_succ_self _) (by omega) (by rfl) _ _ _ hP hD hS (lv_sub hl [2, 3, 1, 0] rfl)
set_option maxHeartbeats 4000000 in
set_option maxRecDepth 100000 in
theorem c_X3_digestOfPlaces (l : Launch) (D : va_G) (cI : ClassId) (x : Nat) (b : Nat → Nat) (ik rr hc : Int) (aN : Nat → Nat) (n k d v : Nat) (g0 g1 g2 g3 g4 g5 g6 : Nat → Int) (κ ν π ss sf st : Nat → Nat) (wa : Nat) (w0 : Int) (gw : Nat → Int) (h0 : Int) (hT : TI n k d v g0 g1 g2 g3 g4 g5 g6 κ ν π ss sf st) : zMl l yX3_digestOfPlaces cX3_digestOfPlaces 6 (some .long) ({ frames := 4, cells := 0, slots := 0, locals := 88 }) D cI [.ref x, .long (zL h0)] [cX x b ik rr hc, cT (b 1) aN ((n : Nat) : Int) ((k : Nat) : Int) ((d : Nat) : Int) ((v : Nat) : Int), cR cI (aN 2) 72 g2, cR cI (aN 3) 12 g3, cW (b 3) wa w0, cR cI wa 12 gw] (fun (z : Int) (u : (Int) × (Nat → Int)) => z = (fDp n k κ ν π h0)) (fun (u : (Int) × (Nat → Int)) => [cX x b ik rr hc, cT (b 1) aN ((n : Nat) : Int) ((k : Nat) : Int) ((d : Nat) : Int) ((v : Nat) : Int), cR cI (aN 2) 72 g2, cR cI (aN 3) 12 g3, cW (b 3) wa u.1, cR cI wa 12 u.2]) := by
  intro sz
  refine zstart rfl (by decide) (Nat.le_of_ble_eq_true rfl) ?_
  intro p e s m below meth c ls K hnm hsz hP hD hS hl
  generalize hargs : ([.ref x, .long (zL h0)] : List Value).toArray = args at K ⊢
  generalize hQf : MQ below _ args s _ _ _ = Qf
  have K : zK p s m args meth c cX3_digestOfPlaces 6 RX3 (some .long) D cI := K
  obtain ⟨hx, hb, hml, hown, hts, hE, -, -⟩ := id K
  have hA := zhA (ws0 := [cX x b ik rr hc, cT (b 1) aN ((n : Nat) : Int) ((k : Nat) : Int) ((d : Nat) : Int) ((v : Nat) : Int), cR cI (aN 2) 72 g2, cR cI (aN 3) 12 g3, cW (b 3) wa w0, cR cI wa 12 gw]) hsz
  have hl : lv_has ls 6 [(0, .ref x), (1, .long (zL h0))] := hl
  obtain ⟨hnk, -⟩ := id hT
  refine lv_lload_n hx hb dX3_digestOfPlaces_0 rfl (lv_at hl 1 rfl) ?_
  refine lv_lstore_n (lv' := [(3, .long (zL h0)), (0, .ref x), (1, .long (zL h0))]) hx hb dX3_digestOfPlaces_1 rfl hl (by decide) rfl (fun ls hl => ?_)
  refine lv_iconst (v := zI 0) hx hb dX3_digestOfPlaces_2 rfl ?_
  refine lv_istore (lv' := [(5, .int (zI 0)), (3, .long (zL h0)), (0, .ref x), (1, .long (zL h0))]) hx hb dX3_digestOfPlaces_3 hl (by decide) rfl (fun ls hl => ?_)
  have cut_5 : ∀ (N_5 : Nat), ∀ (i : Nat) (y ow1 : Int) (of1 : Nat → Int), n - i < N_5 → (i ≤ n) → (y = hP3 (fun i => fAt n π (i : Int)) (fun i => fRound n k κ ν (i : Int)) (fun i => fAfter n k κ ν (i : Int) 7) i h0) → ∀ (H : Heap) (locs : List Loc) (ls : Array Slot), va_P D cls [cX x b ik rr hc, cT (b 1) aN ((n : Nat) : Int) ((k : Nat) : Int) ((d : Nat) : Int) ((v : Nat) : Int), cR cI (aN 2) 72 g2, cR cI (aN 3) 12 g3, cW (b 3) wa ow1, cR cI wa 12 of1] H → va_D (va_A [cX x b ik rr hc, cT (b 1) aN ((n : Nat) : Int) ((k : Nat) : Int) ((d : Nat) : Int) ((v : Nat) : Int), cR cI (aN 2) 72 g2, cR cI (aN 3) 12 g3, cW (b 3) wa w0, cR cI wa 12 gw] sz) [cX x b ik rr hc, cT (b 1) aN ((n : Nat) : Int) ((k : Nat) : Int) ((d : Nat) : Int) ((v : Nat) : Int), cR cI (aN 2) 72 g2, cR cI (aN 3) 12 g3, cW (b 3) wa ow1, cR cI wa 12 of1] → va_S (va_A [cX x b ik rr hc, cT (b 1) aN ((n : Nat) : Int) ((k : Nat) : Int) ((d : Nat) : Int) ((v : Nat) : Int), cR cI (aN 2) 72 g2, cR cI (aN 3) 12 g3, cW (b 3) wa w0, cR cI wa 12 gw] sz) s.heap H locs → lv_has ls 6 [(0, .ref x), (1, .long (zL h0)), (3, .long (zL y)), (5, .int (zI ((i : Nat) : Int)))] → W p l e ({ frames := 4, cells := 0, slots := 0, locals := 88 }) s m args below meth c H locs 0 0 Qf (F0 m 5 ls []) := by
    intro N_5
    induction N_5 with
    | zero => intro i y ow1 of1 hm_5; exact absurd hm_5 (Nat.not_lt_zero _)
    | succ N_5 ih_5 =>
      intro i y ow1 of1 hm_5 hi hy H locs ls hP hD hS hl
      refine lv_iload hx hb dX3_digestOfPlaces_5 (lv_at hl 3 rfl) ?_
      refine lv_aload_n hx hb dX3_digestOfPlaces_7 rfl (lv_at hl 0 rfl) ?_
      refine va_get (D := D) (ci := 3) (v := .ref (b 1)) (C := RX3) (T := TX3) (N := 10) hx hb hts inT_X3 hown hE.1 hP 0 rfl rfl 1 (by decide) (hts _ qf_X3_19) (fun _ h9 => h9) rfl dX3_digestOfPlaces_8 ?_
      refine va_getN (D := D) (ci := 1) (v := .int (zI ((n : Nat) : Int))) (C := RX1) (T := TX1) (N := 11) hx hb hts inT_X1 hown hE.1 hP 1 rfl rfl 0 (by decide) (va_Nw.use rfl (hE.2 _ nf_X3_201 rfl)) (fun _ h9 => h9) rfl dX3_digestOfPlaces_11 ?_
      refine z_icmp_ge (tgt := 61) hx hb (by omega) dX3_digestOfPlaces_14 (by decide) (fun c_14 => ?_) (fun c_14 => ?_)
      · refine lv_lload_n hx hb dX3_digestOfPlaces_61 rfl (lv_at hl 2 rfl) ?_
        rw [← hQf]
        exact z_lret K hS (ow1, of1) (by rw [hy, show i = n by omega]; rfl) hP hD dX3_digestOfPlaces_62
      · refine lv_lload_n hx hb dX3_digestOfPlaces_17 rfl (lv_at hl 2 rfl) ?_
        refine lv_aload_n hx hb dX3_digestOfPlaces_18 rfl (lv_at hl 0 rfl) ?_
        refine lv_iload hx hb dX3_digestOfPlaces_19 (lv_at hl 3 rfl) ?_
        refine zcall_i (wc := [cX x b ik rr hc, cT (b 1) aN ((n : Nat) : Int) ((k : Nat) : Int) ((d : Nat) : Int) ((v : Nat) : Int), cR cI (aN 3) 12 g3]) (wr := [cR cI (aN 2) 72 g2, cW (b 3) wa ow1, cR cI wa 12 of1]) (rest := [.long (zL y)]) hE hP hD hS hA [0, 1, 3] [2, 4, 5] [3, 4, 0, 5, 1, 2] rfl rfl (by decide) (by decide) (by decide) (fun (u : Unit) => [cX x b ik rr hc, cT (b 1) aN ((n : Nat) : Int) ((k : Nat) : Int) ((d : Nat) : Int) ((v : Nat) : Int), cR cI (aN 2) 72 g2, cR cI (aN 3) 12 g3, cW (b 3) wa ow1, cR cI wa 12 of1]) (fun u => rfl) (fun hPc hDc => zrunV (As := [.int (zI ((i : Nat) : Int))]) (rest := [.long (zL y)]) (q0 := 0) (ci := 3) K k_X3_at qm_X3_232 ⟨⟨rfl, rfl⟩, ⟨Nat.le_of_ble_eq_true rfl, Nat.le_of_ble_eq_true rfl⟩⟩ rfl rfl hPc hDc (c_X3_at l D cI x b ik rr hc aN n k d v g0 g1 g2 g3 g4 g5 g6 κ ν π ss sf st ((i : Nat) : Int) (by first | assumption | omega) (by first | assumption | omega) _) rfl hl.1 rfl (Nat.le_of_ble_eq_true rfl) dX3_digestOfPlaces_21 ⟨Nat.zero_le _, Nat.zero_le _⟩) (by decide) (fun z u H locs hpost hP hD hS => ?_)
        obtain ⟨rfl, hzr_21⟩ := hpost
        have hzr_21 : -2147483648 ≤ (fAt n π ((i : Nat) : Int)) ∧ (fAt n π ((i : Nat) : Int)) < 2147483648 := hzr_21
        have hP : va_P D cls [cX x b ik rr hc, cT (b 1) aN ((n : Nat) : Int) ((k : Nat) : Int) ((d : Nat) : Int) ((v : Nat) : Int), cR cI (aN 2) 72 g2, cR cI (aN 3) 12 g3, cW (b 3) wa ow1, cR cI wa 12 of1] H := hP
        have hD : va_D (va_A [cX x b ik rr hc, cT (b 1) aN ((n : Nat) : Int) ((k : Nat) : Int) ((d : Nat) : Int) ((v : Nat) : Int), cR cI (aN 2) 72 g2, cR cI (aN 3) 12 g3, cW (b 3) wa w0, cR cI wa 12 gw] sz) [cX x b ik rr hc, cT (b 1) aN ((n : Nat) : Int) ((k : Nat) : Int) ((d : Nat) : Int) ((v : Nat) : Int), cR cI (aN 2) 72 g2, cR cI (aN 3) 12 g3, cW (b 3) wa ow1, cR cI wa 12 of1] := hD
        refine W.eq (g2 := F0 m 24 ls [.int (zI (fAt n π ((i : Nat) : Int))), .long (zL y)]) rfl ?_
        refine z_i2l hx hb (by omega) dX3_digestOfPlaces_24 ?_
        refine zcall_l (wc := []) (wr := [cX x b ik rr hc, cT (b 1) aN ((n : Nat) : Int) ((k : Nat) : Int) ((d : Nat) : Int) ((v : Nat) : Int), cR cI (aN 2) 72 g2, cR cI (aN 3) 12 g3, cW (b 3) wa ow1, cR cI wa 12 of1]) (rest := []) hE hP hD hS hA [] [0, 1, 2, 3, 4, 5] [0, 1, 2, 3, 4, 5] rfl rfl (by decide) (by decide) (by decide) (fun (u : Unit) => [cX x b ik rr hc, cT (b 1) aN ((n : Nat) : Int) ((k : Nat) : Int) ((d : Nat) : Int) ((v : Nat) : Int), cR cI (aN 2) 72 g2, cR cI (aN 3) 12 g3, cW (b 3) wa ow1, cR cI wa 12 of1]) (fun u => rfl) (fun hPc hDc => zrunS (As := [.long (zL y), .long (zL (fAt n π ((i : Nat) : Int)))]) (rest := []) K k_X3_joined qm_X3_222 ⟨⟨rfl, rfl⟩, ⟨Nat.le_of_ble_eq_true rfl, Nat.le_of_ble_eq_true rfl⟩⟩ hPc hDc (c_X3_joined l D cI y (fAt n π ((i : Nat) : Int)) _) rfl hl.1 rfl (Nat.le_of_ble_eq_true rfl) dX3_digestOfPlaces_25 ⟨Nat.zero_le _, Nat.zero_le _⟩) (by decide) (fun z u H locs hpost hP hD hS => ?_)
        subst hpost
        have hP : va_P D cls [cX x b ik rr hc, cT (b 1) aN ((n : Nat) : Int) ((k : Nat) : Int) ((d : Nat) : Int) ((v : Nat) : Int), cR cI (aN 2) 72 g2, cR cI (aN 3) 12 g3, cW (b 3) wa ow1, cR cI wa 12 of1] H := hP
        have hD : va_D (va_A [cX x b ik rr hc, cT (b 1) aN ((n : Nat) : Int) ((k : Nat) : Int) ((d : Nat) : Int) ((v : Nat) : Int), cR cI (aN 2) 72 g2, cR cI (aN 3) 12 g3, cW (b 3) wa w0, cR cI wa 12 gw] sz) [cX x b ik rr hc, cT (b 1) aN ((n : Nat) : Int) ((k : Nat) : Int) ((d : Nat) : Int) ((v : Nat) : Int), cR cI (aN 2) 72 g2, cR cI (aN 3) 12 g3, cW (b 3) wa ow1, cR cI wa 12 of1] := hD
        refine W.eq (g2 := F0 m 28 ls [.long (zL (31 * y + (fAt n π ((i : Nat) : Int))))]) rfl ?_
        refine lv_lstore_n (lv' := [(3, .long (zL (31 * y + (fAt n π ((i : Nat) : Int))))), (0, .ref x), (1, .long (zL h0)), (5, .int (zI ((i : Nat) : Int)))]) hx hb dX3_digestOfPlaces_28 rfl hl (by decide) rfl (fun ls hl => ?_)
        refine lv_lload_n hx hb dX3_digestOfPlaces_29 rfl (lv_at hl 0 rfl) ?_
        refine lv_aload_n hx hb dX3_digestOfPlaces_30 rfl (lv_at hl 1 rfl) ?_
        refine lv_iload hx hb dX3_digestOfPlaces_31 (lv_at hl 3 rfl) ?_
        refine zcall_i (wc := [cX x b ik rr hc, cT (b 1) aN ((n : Nat) : Int) ((k : Nat) : Int) ((d : Nat) : Int) ((v : Nat) : Int), cR cI (aN 2) 72 g2, cW (b 3) wa ow1, cR cI wa 12 of1]) (wr := [cR cI (aN 3) 12 g3]) (rest := [.long (zL (31 * y + (fAt n π ((i : Nat) : Int))))]) hE hP hD hS hA [0, 1, 2, 4, 5] [3] [1, 2, 3, 0, 4, 5] rfl rfl (by decide) (by decide) (by decide) (fun (u : (Int) × (Nat → Int)) => [cX x b ik rr hc, cT (b 1) aN ((n : Nat) : Int) ((k : Nat) : Int) ((d : Nat) : Int) ((v : Nat) : Int), cR cI (aN 2) 72 g2, cR cI (aN 3) 12 g3, cW (b 3) wa u.1, cR cI wa 12 u.2]) (fun u => rfl) (fun hPc hDc => zrunV (As := [.int (zI ((i : Nat) : Int))]) (rest := [.long (zL (31 * y + (fAt n π ((i : Nat) : Int))))]) (q0 := 0) (ci := 3) K k_X3_round qm_X3_235 ⟨⟨rfl, rfl⟩, ⟨Nat.le_of_ble_eq_true rfl, Nat.le_of_ble_eq_true rfl⟩⟩ rfl rfl hPc hDc (c_X3_round l D cI x b ik rr hc aN n k d v g0 g1 g2 g3 g4 g5 g6 κ ν π ss sf st wa ow1 of1 ((i : Nat) : Int) (by first | assumption | omega) (by first | assumption | omega) _) rfl hl.1 rfl (Nat.le_of_ble_eq_true rfl) dX3_digestOfPlaces_33 ⟨Nat.zero_le _, Nat.zero_le _⟩) (by decide) (fun z u H locs hpost hP hD hS => ?_)
        obtain ⟨ow_1, of_2⟩ := u
        obtain ⟨rfl, hzr_33⟩ := hpost
        have hzr_33 : -2147483648 ≤ (fRound n k κ ν ((i : Nat) : Int)) ∧ (fRound n k κ ν ((i : Nat) : Int)) < 2147483648 := hzr_33
        have hP : va_P D cls [cX x b ik rr hc, cT (b 1) aN ((n : Nat) : Int) ((k : Nat) : Int) ((d : Nat) : Int) ((v : Nat) : Int), cR cI (aN 2) 72 g2, cR cI (aN 3) 12 g3, cW (b 3) wa ow_1, cR cI wa 12 of_2] H := hP
        have hD : va_D (va_A [cX x b ik rr hc, cT (b 1) aN ((n : Nat) : Int) ((k : Nat) : Int) ((d : Nat) : Int) ((v : Nat) : Int), cR cI (aN 2) 72 g2, cR cI (aN 3) 12 g3, cW (b 3) wa w0, cR cI wa 12 gw] sz) [cX x b ik rr hc, cT (b 1) aN ((n : Nat) : Int) ((k : Nat) : Int) ((d : Nat) : Int) ((v : Nat) : Int), cR cI (aN 2) 72 g2, cR cI (aN 3) 12 g3, cW (b 3) wa ow_1, cR cI wa 12 of_2] := hD
        refine W.eq (g2 := F0 m 36 ls [.int (zI (fRound n k κ ν ((i : Nat) : Int))), .long (zL (31 * y + (fAt n π ((i : Nat) : Int))))]) rfl ?_
        refine z_i2l hx hb (by omega) dX3_digestOfPlaces_36 ?_
        refine zcall_l (wc := []) (wr := [cX x b ik rr hc, cT (b 1) aN ((n : Nat) : Int) ((k : Nat) : Int) ((d : Nat) : Int) ((v : Nat) : Int), cR cI (aN 2) 72 g2, cR cI (aN 3) 12 g3, cW (b 3) wa ow_1, cR cI wa 12 of_2]) (rest := []) hE hP hD hS hA [] [0, 1, 2, 3, 4, 5] [0, 1, 2, 3, 4, 5] rfl rfl (by decide) (by decide) (by decide) (fun (u : Unit) => [cX x b ik rr hc, cT (b 1) aN ((n : Nat) : Int) ((k : Nat) : Int) ((d : Nat) : Int) ((v : Nat) : Int), cR cI (aN 2) 72 g2, cR cI (aN 3) 12 g3, cW (b 3) wa ow_1, cR cI wa 12 of_2]) (fun u => rfl) (fun hPc hDc => zrunS (As := [.long (zL (31 * y + (fAt n π ((i : Nat) : Int)))), .long (zL (fRound n k κ ν ((i : Nat) : Int)))]) (rest := []) K k_X3_joined qm_X3_222 ⟨⟨rfl, rfl⟩, ⟨Nat.le_of_ble_eq_true rfl, Nat.le_of_ble_eq_true rfl⟩⟩ hPc hDc (c_X3_joined l D cI (31 * y + (fAt n π ((i : Nat) : Int))) (fRound n k κ ν ((i : Nat) : Int)) _) rfl hl.1 rfl (Nat.le_of_ble_eq_true rfl) dX3_digestOfPlaces_37 ⟨Nat.zero_le _, Nat.zero_le _⟩) (by decide) (fun z u H locs hpost hP hD hS => ?_)
        subst hpost
        have hP : va_P D cls [cX x b ik rr hc, cT (b 1) aN ((n : Nat) : Int) ((k : Nat) : Int) ((d : Nat) : Int) ((v : Nat) : Int), cR cI (aN 2) 72 g2, cR cI (aN 3) 12 g3, cW (b 3) wa ow_1, cR cI wa 12 of_2] H := hP
        have hD : va_D (va_A [cX x b ik rr hc, cT (b 1) aN ((n : Nat) : Int) ((k : Nat) : Int) ((d : Nat) : Int) ((v : Nat) : Int), cR cI (aN 2) 72 g2, cR cI (aN 3) 12 g3, cW (b 3) wa w0, cR cI wa 12 gw] sz) [cX x b ik rr hc, cT (b 1) aN ((n : Nat) : Int) ((k : Nat) : Int) ((d : Nat) : Int) ((v : Nat) : Int), cR cI (aN 2) 72 g2, cR cI (aN 3) 12 g3, cW (b 3) wa ow_1, cR cI wa 12 of_2] := hD
        refine W.eq (g2 := F0 m 40 ls [.long (zL (31 * (31 * y + (fAt n π ((i : Nat) : Int))) + (fRound n k κ ν ((i : Nat) : Int))))]) rfl ?_
        refine lv_lstore_n (lv' := [(3, .long (zL (31 * (31 * y + (fAt n π ((i : Nat) : Int))) + (fRound n k κ ν ((i : Nat) : Int))))), (0, .ref x), (1, .long (zL h0)), (5, .int (zI ((i : Nat) : Int)))]) hx hb dX3_digestOfPlaces_40 rfl hl (by decide) rfl (fun ls hl => ?_)
        refine lv_lload_n hx hb dX3_digestOfPlaces_41 rfl (lv_at hl 0 rfl) ?_
        refine lv_aload_n hx hb dX3_digestOfPlaces_42 rfl (lv_at hl 1 rfl) ?_
        refine lv_iload hx hb dX3_digestOfPlaces_43 (lv_at hl 3 rfl) ?_
        refine lv_bipush (v := zI 7) hx hb dX3_digestOfPlaces_45 (by decide) ?_
        refine zcall_i (wc := [cX x b ik rr hc, cT (b 1) aN ((n : Nat) : Int) ((k : Nat) : Int) ((d : Nat) : Int) ((v : Nat) : Int), cR cI (aN 2) 72 g2, cW (b 3) wa ow_1, cR cI wa 12 of_2]) (wr := [cR cI (aN 3) 12 g3]) (rest := [.long (zL (31 * (31 * y + (fAt n π ((i : Nat) : Int))) + (fRound n k κ ν ((i : Nat) : Int))))]) hE hP hD hS hA [0, 1, 2, 4, 5] [3] [1, 2, 3, 0, 4, 5] rfl rfl (by decide) (by decide) (by decide) (fun (u : (Int) × (Nat → Int)) => [cX x b ik rr hc, cT (b 1) aN ((n : Nat) : Int) ((k : Nat) : Int) ((d : Nat) : Int) ((v : Nat) : Int), cR cI (aN 2) 72 g2, cR cI (aN 3) 12 g3, cW (b 3) wa u.1, cR cI wa 12 u.2]) (fun u => rfl) (fun hPc hDc => zrunV (As := [.int (zI ((i : Nat) : Int)), .int (zI 7)]) (rest := [.long (zL (31 * (31 * y + (fAt n π ((i : Nat) : Int))) + (fRound n k κ ν ((i : Nat) : Int))))]) (q0 := 0) (ci := 3) K k_X3_after qm_X3_238 ⟨⟨rfl, rfl⟩, ⟨Nat.le_of_ble_eq_true rfl, Nat.le_of_ble_eq_true rfl⟩⟩ rfl rfl hPc hDc (c_X3_after l D cI x b ik rr hc aN n k d v g0 g1 g2 g3 g4 g5 g6 κ ν π ss sf st wa ow_1 of_2 ((i : Nat) : Int) 7 (by first | assumption | omega) (by first | assumption | omega) (by first | assumption | omega) _) rfl hl.1 rfl (Nat.le_of_ble_eq_true rfl) dX3_digestOfPlaces_47 ⟨Nat.zero_le _, Nat.zero_le _⟩) (by decide) (fun z u H locs hpost hP hD hS => ?_)
        obtain ⟨ow_3, of_4⟩ := u
        obtain ⟨rfl, hzr_47⟩ := hpost
        have hzr_47 : -2147483648 ≤ (fAfter n k κ ν ((i : Nat) : Int) 7) ∧ (fAfter n k κ ν ((i : Nat) : Int) 7) < 2147483648 := hzr_47
        have hP : va_P D cls [cX x b ik rr hc, cT (b 1) aN ((n : Nat) : Int) ((k : Nat) : Int) ((d : Nat) : Int) ((v : Nat) : Int), cR cI (aN 2) 72 g2, cR cI (aN 3) 12 g3, cW (b 3) wa ow_3, cR cI wa 12 of_4] H := hP
        have hD : va_D (va_A [cX x b ik rr hc, cT (b 1) aN ((n : Nat) : Int) ((k : Nat) : Int) ((d : Nat) : Int) ((v : Nat) : Int), cR cI (aN 2) 72 g2, cR cI (aN 3) 12 g3, cW (b 3) wa w0, cR cI wa 12 gw] sz) [cX x b ik rr hc, cT (b 1) aN ((n : Nat) : Int) ((k : Nat) : Int) ((d : Nat) : Int) ((v : Nat) : Int), cR cI (aN 2) 72 g2, cR cI (aN 3) 12 g3, cW (b 3) wa ow_3, cR cI wa 12 of_4] := hD
        refine W.eq (g2 := F0 m 50 ls [.int (zI (fAfter n k κ ν ((i : Nat) : Int) 7)), .long (zL (31 * (31 * y + (fAt n π ((i : Nat) : Int))) + (fRound n k κ ν ((i : Nat) : Int))))]) rfl ?_
        refine z_i2l hx hb (by omega) dX3_digestOfPlaces_50 ?_
        refine zcall_l (wc := []) (wr := [cX x b ik rr hc, cT (b 1) aN ((n : Nat) : Int) ((k : Nat) : Int) ((d : Nat) : Int) ((v : Nat) : Int), cR cI (aN 2) 72 g2, cR cI (aN 3) 12 g3, cW (b 3) wa ow_3, cR cI wa 12 of_4]) (rest := []) hE hP hD hS hA [] [0, 1, 2, 3, 4, 5] [0, 1, 2, 3, 4, 5] rfl rfl (by decide) (by decide) (by decide) (fun (u : Unit) => [cX x b ik rr hc, cT (b 1) aN ((n : Nat) : Int) ((k : Nat) : Int) ((d : Nat) : Int) ((v : Nat) : Int), cR cI (aN 2) 72 g2, cR cI (aN 3) 12 g3, cW (b 3) wa ow_3, cR cI wa 12 of_4]) (fun u => rfl) (fun hPc hDc => zrunS (As := [.long (zL (31 * (31 * y + (fAt n π ((i : Nat) : Int))) + (fRound n k κ ν ((i : Nat) : Int)))), .long (zL (fAfter n k κ ν ((i : Nat) : Int) 7))]) (rest := []) K k_X3_joined qm_X3_222 ⟨⟨rfl, rfl⟩, ⟨Nat.le_of_ble_eq_true rfl, Nat.le_of_ble_eq_true rfl⟩⟩ hPc hDc (c_X3_joined l D cI (31 * (31 * y + (fAt n π ((i : Nat) : Int))) + (fRound n k κ ν ((i : Nat) : Int))) (fAfter n k κ ν ((i : Nat) : Int) 7) _) rfl hl.1 rfl (Nat.le_of_ble_eq_true rfl) dX3_digestOfPlaces_51 ⟨Nat.zero_le _, Nat.zero_le _⟩) (by decide) (fun z u H locs hpost hP hD hS => ?_)
        subst hpost
        have hP : va_P D cls [cX x b ik rr hc, cT (b 1) aN ((n : Nat) : Int) ((k : Nat) : Int) ((d : Nat) : Int) ((v : Nat) : Int), cR cI (aN 2) 72 g2, cR cI (aN 3) 12 g3, cW (b 3) wa ow_3, cR cI wa 12 of_4] H := hP
        have hD : va_D (va_A [cX x b ik rr hc, cT (b 1) aN ((n : Nat) : Int) ((k : Nat) : Int) ((d : Nat) : Int) ((v : Nat) : Int), cR cI (aN 2) 72 g2, cR cI (aN 3) 12 g3, cW (b 3) wa w0, cR cI wa 12 gw] sz) [cX x b ik rr hc, cT (b 1) aN ((n : Nat) : Int) ((k : Nat) : Int) ((d : Nat) : Int) ((v : Nat) : Int), cR cI (aN 2) 72 g2, cR cI (aN 3) 12 g3, cW (b 3) wa ow_3, cR cI wa 12 of_4] := hD
        refine W.eq (g2 := F0 m 54 ls [.long (zL (31 * (31 * (31 * y + (fAt n π ((i : Nat) : Int))) + (fRound n k κ ν ((i : Nat) : Int))) + (fAfter n k κ ν ((i : Nat) : Int) 7)))]) rfl ?_
        refine lv_lstore_n (lv' := [(3, .long (zL (31 * (31 * (31 * y + (fAt n π ((i : Nat) : Int))) + (fRound n k κ ν ((i : Nat) : Int))) + (fAfter n k κ ν ((i : Nat) : Int) 7)))), (0, .ref x), (1, .long (zL h0)), (5, .int (zI ((i : Nat) : Int)))]) hx hb dX3_digestOfPlaces_54 rfl hl (by decide) rfl (fun ls hl => ?_)
        refine z_iinc (k := 3) (lv' := [(5, .int (zI (((i + 1) : Nat) : Int))), (3, .long (zL (31 * (31 * (31 * y + (fAt n π ((i : Nat) : Int))) + (fRound n k κ ν ((i : Nat) : Int))) + (fAfter n k κ ν ((i : Nat) : Int) 7)))), (0, .ref x), (1, .long (zL h0))]) hx hb (((i + 1) : Nat) : Int) (by omega) dX3_digestOfPlaces_55 hl rfl (by decide) rfl (fun ls hl => ?_)
        refine lv_goto (tgt := 5) hx hb dX3_digestOfPlaces_58 (by decide) ?_
        exact ih_5 (i + 1) (31 * (31 * (31 * y + (fAt n π ((i : Nat) : Int))) + (fRound n k κ ν ((i : Nat) : Int))) + (fAfter n k κ ν ((i : Nat) : Int) 7)) ow_3 of_4 (by omega) (by omega) (by rw [hy]; rfl) _ _ _ hP hD hS (lv_sub hl [2, 3, 1, 0] rfl)
  exact cut_5 (n - 0 + 1) 0 h0 w0 gw (Nat.lt_succ_self _) (by omega) (by rfl) _ _ _ hP hD hS (lv_sub hl [2, 3, 1, 0] rfl)
set_option maxHeartbeats 4000000 in
set_option maxRecDepth 100000 in
theorem c_X3_digestOfRoutine (l : Launch) (D : va_G) (cI : ClassId) (x : Nat) (b : Nat → Nat) (ik rr hc : Int) (aN : Nat → Nat) (n k d v : Nat) (g0 g1 g2 g3 g4 g5 g6 : Nat → Int) (κ ν π ss sf st : Nat → Nat) (wa : Nat) (w0 : Int) (gw : Nat → Int) (gt gs : Nat → Int) (h0 : Int) (hT : TI n k d v g0 g1 g2 g3 g4 g5 g6 κ ν π ss sf st) : zMl l yX3_digestOfRoutine cX3_digestOfRoutine 6 (some .long) ({ frames := 4, cells := 0, slots := 0, locals := 101 }) D cI [.ref x, .long (zL h0)] [cX x b ik rr hc, cT (b 1) aN ((n : Nat) : Int) ((k : Nat) : Int) ((d : Nat) : Int) ((v : Nat) : Int), cR cI (aN 2) 72 g2, cR cI (aN 3) 12 g3, cW (b 3) wa w0, cR cI wa 12 gw, cR cI (b 4) 12 gt, cR cI (b 5) 12 gs] (fun (z : Int) (u : (Int) × (Nat → Int) × (Nat → Int) × (Nat → Int)) => z = (fDr n k κ ν π h0)) (fun (u : (Int) × (Nat → Int) × (Nat → Int) × (Nat → Int)) => [cX x b ik rr hc, cT (b 1) aN ((n : Nat) : Int) ((k : Nat) : Int) ((d : Nat) : Int) ((v : Nat) : Int), cR cI (aN 2) 72 g2, cR cI (aN 3) 12 g3, cW (b 3) wa u.1, cR cI wa 12 u.2.1, cR cI (b 4) 12 u.2.2.1, cR cI (b 5) 12 u.2.2.2]) := by
  intro sz
  refine zstart rfl (by decide) (Nat.le_of_ble_eq_true rfl) ?_
  intro p e s m below meth c ls K hnm hsz hP hD hS hl
  generalize hargs : ([.ref x, .long (zL h0)] : List Value).toArray = args at K ⊢
  generalize hQf : MQ below _ args s _ _ _ = Qf
  have K : zK p s m args meth c cX3_digestOfRoutine 6 RX3 (some .long) D cI := K
  obtain ⟨hx, hb, hml, hown, hts, hE, -, -⟩ := id K
  have hA := zhA (ws0 := [cX x b ik rr hc, cT (b 1) aN ((n : Nat) : Int) ((k : Nat) : Int) ((d : Nat) : Int) ((v : Nat) : Int), cR cI (aN 2) 72 g2, cR cI (aN 3) 12 g3, cW (b 3) wa w0, cR cI wa 12 gw, cR cI (b 4) 12 gt, cR cI (b 5) 12 gs]) hsz
  have hl : lv_has ls 6 [(0, .ref x), (1, .long (zL h0))] := hl
  obtain ⟨hnk, -⟩ := id hT
  refine lv_aload_n hx hb dX3_digestOfRoutine_0 rfl (lv_at hl 0 rfl) ?_
  refine va_get (D := D) (ci := 3) (v := .ref (b 1)) (C := RX3) (T := TX3) (N := 10) hx hb hts inT_X3 hown hE.1 hP 0 rfl rfl 1 (by decide) (hts _ qf_X3_19) (fun _ h9 => h9) rfl dX3_digestOfRoutine_1 ?_
  refine zcall_i (wc := [cT (b 1) aN ((n : Nat) : Int) ((k : Nat) : Int) ((d : Nat) : Int) ((v : Nat) : Int)]) (wr := [cX x b ik rr hc, cR cI (aN 2) 72 g2, cR cI (aN 3) 12 g3, cW (b 3) wa w0, cR cI wa 12 gw, cR cI (b 4) 12 gt, cR cI (b 5) 12 gs]) (rest := []) hE hP hD hS hA [1] [0, 2, 3, 4, 5, 6, 7] [0, 7, 1, 2, 3, 4, 5, 6] rfl rfl (by decide) (by decide) (by decide) (fun (u : Unit) => [cX x b ik rr hc, cT (b 1) aN ((n : Nat) : Int) ((k : Nat) : Int) ((d : Nat) : Int) ((v : Nat) : Int), cR cI (aN 2) 72 g2, cR cI (aN 3) 12 g3, cW (b 3) wa w0, cR cI wa 12 gw, cR cI (b 4) 12 gt, cR cI (b 5) 12 gs]) (fun u => rfl) (fun hPc hDc => zrunVN (As := []) (rest := []) (q0 := 0) (ci := 1) K k_X1_hasRoutine nk_X3_124 ⟨⟨rfl, rfl⟩, ⟨Nat.le_of_ble_eq_true rfl, Nat.le_of_ble_eq_true rfl⟩⟩ rfl rfl hPc hDc (c_X1_hasRoutine l D cI (b 1) aN n k d v (by first | assumption | omega) _) rfl hl.1 rfl (Nat.le_of_ble_eq_true rfl) dX3_digestOfRoutine_4 ⟨Nat.zero_le _, Nat.zero_le _⟩) (by decide) (fun z u H locs hpost hP hD hS => ?_)
  subst hpost
  have hP : va_P D cls [cX x b ik rr hc, cT (b 1) aN ((n : Nat) : Int) ((k : Nat) : Int) ((d : Nat) : Int) ((v : Nat) : Int), cR cI (aN 2) 72 g2, cR cI (aN 3) 12 g3, cW (b 3) wa w0, cR cI wa 12 gw, cR cI (b 4) 12 gt, cR cI (b 5) 12 gs] H := hP
  have hD : va_D (va_A [cX x b ik rr hc, cT (b 1) aN ((n : Nat) : Int) ((k : Nat) : Int) ((d : Nat) : Int) ((v : Nat) : Int), cR cI (aN 2) 72 g2, cR cI (aN 3) 12 g3, cW (b 3) wa w0, cR cI wa 12 gw, cR cI (b 4) 12 gt, cR cI (b 5) 12 gs] sz) [cX x b ik rr hc, cT (b 1) aN ((n : Nat) : Int) ((k : Nat) : Int) ((d : Nat) : Int) ((v : Nat) : Int), cR cI (aN 2) 72 g2, cR cI (aN 3) 12 g3, cW (b 3) wa w0, cR cI wa 12 gw, cR cI (b 4) 12 gt, cR cI (b 5) 12 gs] := hD
  refine W.eq (g2 := F0 m 7 ls [.int (zI (b01 (0 < k)))]) rfl ?_
  refine z_if_ne (tgt := 12) hx hb (by have := b01_r (0 < k); omega) dX3_digestOfRoutine_7 (by decide) (fun c_7 => ?_) (fun c_7 => ?_)
  · have b_7 := b01_ne c_7
    refine lv_lload_n hx hb dX3_digestOfRoutine_12 rfl (lv_at hl 1 rfl) ?_
    refine lv_lstore_n (lv' := [(3, .long (zL h0)), (0, .ref x), (1, .long (zL h0))]) hx hb dX3_digestOfRoutine_13 rfl hl (by decide) rfl (fun ls hl => ?_)
    refine lv_iconst (v := zI 0) hx hb dX3_digestOfRoutine_14 rfl ?_
    refine lv_istore (lv' := [(5, .int (zI 0)), (3, .long (zL h0)), (0, .ref x), (1, .long (zL h0))]) hx hb dX3_digestOfRoutine_15 hl (by decide) rfl (fun ls hl => ?_)
    have cut_17 : ∀ (N_17 : Nat), ∀ (i : Nat) (y ow1 : Int) (of1 : Nat → Int), 4 - i < N_17 → (i ≤ 4) → (y = hF (fun w => fRings n k κ ν (w : Int)) i h0) → ∀ (H : Heap) (locs : List Loc) (ls : Array Slot), va_P D cls [cX x b ik rr hc, cT (b 1) aN ((n : Nat) : Int) ((k : Nat) : Int) ((d : Nat) : Int) ((v : Nat) : Int), cR cI (aN 2) 72 g2, cR cI (aN 3) 12 g3, cW (b 3) wa ow1, cR cI wa 12 of1, cR cI (b 4) 12 gt, cR cI (b 5) 12 gs] H → va_D (va_A [cX x b ik rr hc, cT (b 1) aN ((n : Nat) : Int) ((k : Nat) : Int) ((d : Nat) : Int) ((v : Nat) : Int), cR cI (aN 2) 72 g2, cR cI (aN 3) 12 g3, cW (b 3) wa w0, cR cI wa 12 gw, cR cI (b 4) 12 gt, cR cI (b 5) 12 gs] sz) [cX x b ik rr hc, cT (b 1) aN ((n : Nat) : Int) ((k : Nat) : Int) ((d : Nat) : Int) ((v : Nat) : Int), cR cI (aN 2) 72 g2, cR cI (aN 3) 12 g3, cW (b 3) wa ow1, cR cI wa 12 of1, cR cI (b 4) 12 gt, cR cI (b 5) 12 gs] → va_S (va_A [cX x b ik rr hc, cT (b 1) aN ((n : Nat) : Int) ((k : Nat) : Int) ((d : Nat) : Int) ((v : Nat) : Int), cR cI (aN 2) 72 g2, cR cI (aN 3) 12 g3, cW (b 3) wa w0, cR cI wa 12 gw, cR cI (b 4) 12 gt, cR cI (b 5) 12 gs] sz) s.heap H locs → lv_has ls 6 [(0, .ref x), (1, .long (zL h0)), (3, .long (zL y)), (5, .int (zI ((i : Nat) : Int)))] → W p l e ({ frames := 4, cells := 0, slots := 0, locals := 101 }) s m args below meth c H locs 0 0 Qf (F0 m 17 ls []) := by
      intro N_17
      induction N_17 with
      | zero => intro i y ow1 of1 hm_17; exact absurd hm_17 (Nat.not_lt_zero _)
      | succ N_17 ih_17 =>
        intro i y ow1 of1 hm_17 hi hy H locs ls hP hD hS hl
        refine lv_iload hx hb dX3_digestOfRoutine_17 (lv_at hl 3 rfl) ?_
        refine lv_iconst (v := zI 3) hx hb dX3_digestOfRoutine_19 rfl ?_
        refine z_icmp_gt (tgt := 41) hx hb (by omega) dX3_digestOfRoutine_20 (by decide) (fun c_20 => ?_) (fun c_20 => ?_)
        · refine lv_iconst (v := zI 0) hx hb dX3_digestOfRoutine_41 rfl ?_
          refine lv_istore (lv' := [(5, .int (zI 0)), (0, .ref x), (1, .long (zL h0)), (3, .long (zL y))]) hx hb dX3_digestOfRoutine_42 hl (by decide) rfl (fun ls hl => ?_)
          have cut_44 : ∀ (N_44 : Nat), ∀ (i1 : Nat) (w : Int) (ot1 : Nat → Int), 2 - i1 < N_44 → (i1 ≤ 2) → (w = hF (fun w => fBring n k κ ν π 0 1 (w : Int)) i1 y) → ∀ (H : Heap) (locs : List Loc) (ls : Array Slot), va_P D cls [cX x b ik rr hc, cT (b 1) aN ((n : Nat) : Int) ((k : Nat) : Int) ((d : Nat) : Int) ((v : Nat) : Int), cR cI (aN 2) 72 g2, cR cI (aN 3) 12 g3, cW (b 3) wa ow1, cR cI wa 12 of1, cR cI (b 4) 12 ot1, cR cI (b 5) 12 gs] H → va_D (va_A [cX x b ik rr hc, cT (b 1) aN ((n : Nat) : Int) ((k : Nat) : Int) ((d : Nat) : Int) ((v : Nat) : Int), cR cI (aN 2) 72 g2, cR cI (aN 3) 12 g3, cW (b 3) wa w0, cR cI wa 12 gw, cR cI (b 4) 12 gt, cR cI (b 5) 12 gs] sz) [cX x b ik rr hc, cT (b 1) aN ((n : Nat) : Int) ((k : Nat) : Int) ((d : Nat) : Int) ((v : Nat) : Int), cR cI (aN 2) 72 g2, cR cI (aN 3) 12 g3, cW (b 3) wa ow1, cR cI wa 12 of1, cR cI (b 4) 12 ot1, cR cI (b 5) 12 gs] → va_S (va_A [cX x b ik rr hc, cT (b 1) aN ((n : Nat) : Int) ((k : Nat) : Int) ((d : Nat) : Int) ((v : Nat) : Int), cR cI (aN 2) 72 g2, cR cI (aN 3) 12 g3, cW (b 3) wa w0, cR cI wa 12 gw, cR cI (b 4) 12 gt, cR cI (b 5) 12 gs] sz) s.heap H locs → lv_has ls 6 [(0, .ref x), (1, .long (zL h0)), (3, .long (zL w)), (5, .int (zI ((i1 : Nat) : Int)))] → W p l e ({ frames := 4, cells := 0, slots := 0, locals := 101 }) s m args below meth c H locs 0 0 Qf (F0 m 44 ls []) := by
            intro N_44
            induction N_44 with
            | zero => intro i1 w ot1 hm_44; exact absurd hm_44 (Nat.not_lt_zero _)
            | succ N_44 ih_44 =>
              intro i1 w ot1 hm_44 hi1 hw H locs ls hP hD hS hl
              refine lv_iload hx hb dX3_digestOfRoutine_44 (lv_at hl 3 rfl) ?_
              refine lv_iconst (v := zI 1) hx hb dX3_digestOfRoutine_46 rfl ?_
              refine z_icmp_gt (tgt := 70) hx hb (by omega) dX3_digestOfRoutine_47 (by decide) (fun c_47 => ?_) (fun c_47 => ?_)
              · refine lv_iconst (v := zI 0) hx hb dX3_digestOfRoutine_70 rfl ?_
                refine lv_istore (lv' := [(5, .int (zI 0)), (0, .ref x), (1, .long (zL h0)), (3, .long (zL w))]) hx hb dX3_digestOfRoutine_71 hl (by decide) rfl (fun ls hl => ?_)
                have cut_73 : ∀ (N_73 : Nat), ∀ (i2 : Nat) (w2 : Int) (ot2 os2 : Nat → Int), 2 - i2 < N_73 → (i2 ≤ 2) → (w2 = hF (fun w => fOdds n k κ ν π 0 1 3 (w : Int)) i2 w) → ∀ (H : Heap) (locs : List Loc) (ls : Array Slot), va_P D cls [cX x b ik rr hc, cT (b 1) aN ((n : Nat) : Int) ((k : Nat) : Int) ((d : Nat) : Int) ((v : Nat) : Int), cR cI (aN 2) 72 g2, cR cI (aN 3) 12 g3, cW (b 3) wa ow1, cR cI wa 12 of1, cR cI (b 4) 12 ot2, cR cI (b 5) 12 os2] H → va_D (va_A [cX x b ik rr hc, cT (b 1) aN ((n : Nat) : Int) ((k : Nat) : Int) ((d : Nat) : Int) ((v : Nat) : Int), cR cI (aN 2) 72 g2, cR cI (aN 3) 12 g3, cW (b 3) wa w0, cR cI wa 12 gw, cR cI (b 4) 12 gt, cR cI (b 5) 12 gs] sz) [cX x b ik rr hc, cT (b 1) aN ((n : Nat) : Int) ((k : Nat) : Int) ((d : Nat) : Int) ((v : Nat) : Int), cR cI (aN 2) 72 g2, cR cI (aN 3) 12 g3, cW (b 3) wa ow1, cR cI wa 12 of1, cR cI (b 4) 12 ot2, cR cI (b 5) 12 os2] → va_S (va_A [cX x b ik rr hc, cT (b 1) aN ((n : Nat) : Int) ((k : Nat) : Int) ((d : Nat) : Int) ((v : Nat) : Int), cR cI (aN 2) 72 g2, cR cI (aN 3) 12 g3, cW (b 3) wa w0, cR cI wa 12 gw, cR cI (b 4) 12 gt, cR cI (b 5) 12 gs] sz) s.heap H locs → lv_has ls 6 [(0, .ref x), (1, .long (zL h0)), (3, .long (zL w2)), (5, .int (zI ((i2 : Nat) : Int)))] → W p l e ({ frames := 4, cells := 0, slots := 0, locals := 101 }) s m args below meth c H locs 0 0 Qf (F0 m 73 ls []) := by
                  intro N_73
                  induction N_73 with
                  | zero => intro i2 w2 ot2 os2 hm_73; exact absurd hm_73 (Nat.not_lt_zero _)
                  | succ N_73 ih_73 =>
                    intro i2 w2 ot2 os2 hm_73 hi2 hw2 H locs ls hP hD hS hl
                    refine lv_iload hx hb dX3_digestOfRoutine_73 (lv_at hl 3 rfl) ?_
                    refine lv_iconst (v := zI 1) hx hb dX3_digestOfRoutine_75 rfl ?_
                    refine z_icmp_gt (tgt := 100) hx hb (by omega) dX3_digestOfRoutine_76 (by decide) (fun c_76 => ?_) (fun c_76 => ?_)
                    · refine lv_lload_n hx hb dX3_digestOfRoutine_100 rfl (lv_at hl 2 rfl) ?_
                      rw [← hQf]
                      exact z_lret K hS (ow1, of1, ot2, os2) (by rw [fDr, if_neg (by omega), hw2, hw, hy, show i = 4 by omega, show i1 = 2 by omega, show i2 = 2 by omega]) hP hD dX3_digestOfRoutine_101
                    · refine lv_lload_n hx hb dX3_digestOfRoutine_79 rfl (lv_at hl 2 rfl) ?_
                      refine lv_aload_n hx hb dX3_digestOfRoutine_80 rfl (lv_at hl 0 rfl) ?_
                      refine lv_iconst (v := zI 0) hx hb dX3_digestOfRoutine_81 rfl ?_
                      refine lv_iconst (v := zI 1) hx hb dX3_digestOfRoutine_82 rfl ?_
                      refine lv_iconst (v := zI 3) hx hb dX3_digestOfRoutine_83 rfl ?_
                      refine lv_iload hx hb dX3_digestOfRoutine_84 (lv_at hl 3 rfl) ?_
                      refine zcall_i (wc := [cX x b ik rr hc, cT (b 1) aN ((n : Nat) : Int) ((k : Nat) : Int) ((d : Nat) : Int) ((v : Nat) : Int), cR cI (aN 2) 72 g2, cR cI (aN 3) 12 g3, cR cI (b 4) 12 ot2, cR cI (b 5) 12 os2]) (wr := [cW (b 3) wa ow1, cR cI wa 12 of1]) (rest := [.long (zL w2)]) hE hP hD hS hA [0, 1, 2, 3, 6, 7] [4, 5] [2, 3, 4, 5, 0, 1, 6, 7] rfl rfl (by decide) (by decide) (by decide) (fun (u : (Nat → Int) × (Nat → Int)) => [cX x b ik rr hc, cT (b 1) aN ((n : Nat) : Int) ((k : Nat) : Int) ((d : Nat) : Int) ((v : Nat) : Int), cR cI (aN 2) 72 g2, cR cI (aN 3) 12 g3, cW (b 3) wa ow1, cR cI wa 12 of1, cR cI (b 4) 12 u.1, cR cI (b 5) 12 u.2]) (fun u => rfl) (fun hPc hDc => zrunV (As := [.int (zI 0), .int (zI 1), .int (zI 3), .int (zI ((i2 : Nat) : Int))]) (rest := [.long (zL w2)]) (q0 := 0) (ci := 3) K k_X3_odds qm_X3_248 ⟨⟨rfl, rfl⟩, ⟨Nat.le_of_ble_eq_true rfl, Nat.le_of_ble_eq_true rfl⟩⟩ rfl rfl hPc hDc (c_X3_odds l D cI x b ik rr hc aN n k d v g0 g1 g2 g3 g4 g5 g6 κ ν π ss sf st ot2 os2 0 1 3 ((i2 : Nat) : Int) (by first | assumption | omega) (by first | assumption | omega) (by first | assumption | omega) (by first | assumption | omega) (by first | assumption | omega) _) rfl hl.1 rfl (Nat.le_of_ble_eq_true rfl) dX3_digestOfRoutine_86 ⟨Nat.zero_le _, Nat.zero_le _⟩) (by decide) (fun z u H locs hpost hP hD hS => ?_)
                      obtain ⟨ot_1, os_2⟩ := u
                      obtain ⟨rfl, hzr_86⟩ := hpost
                      have hzr_86 : -2147483648 ≤ (fOdds n k κ ν π 0 1 3 ((i2 : Nat) : Int)) ∧ (fOdds n k κ ν π 0 1 3 ((i2 : Nat) : Int)) < 2147483648 := hzr_86
                      have hP : va_P D cls [cX x b ik rr hc, cT (b 1) aN ((n : Nat) : Int) ((k : Nat) : Int) ((d : Nat) : Int) ((v : Nat) : Int), cR cI (aN 2) 72 g2, cR cI (aN 3) 12 g3, cW (b 3) wa ow1, cR cI wa 12 of1, cR cI (b 4) 12 ot_1, cR cI (b 5) 12 os_2] H := hP
                      have hD : va_D (va_A [cX x b ik rr hc, cT (b 1) aN ((n : Nat) : Int) ((k : Nat) : Int) ((d : Nat) : Int) ((v : Nat) : Int), cR cI (aN 2) 72 g2, cR cI (aN 3) 12 g3, cW (b 3) wa w0, cR cI wa 12 gw, cR cI (b 4) 12 gt, cR cI (b 5) 12 gs] sz) [cX x b ik rr hc, cT (b 1) aN ((n : Nat) : Int) ((k : Nat) : Int) ((d : Nat) : Int) ((v : Nat) : Int), cR cI (aN 2) 72 g2, cR cI (aN 3) 12 g3, cW (b 3) wa ow1, cR cI wa 12 of1, cR cI (b 4) 12 ot_1, cR cI (b 5) 12 os_2] := hD
                      refine W.eq (g2 := F0 m 89 ls [.int (zI (fOdds n k κ ν π 0 1 3 ((i2 : Nat) : Int))), .long (zL w2)]) rfl ?_
                      refine z_i2l hx hb (by omega) dX3_digestOfRoutine_89 ?_
                      refine zcall_l (wc := []) (wr := [cX x b ik rr hc, cT (b 1) aN ((n : Nat) : Int) ((k : Nat) : Int) ((d : Nat) : Int) ((v : Nat) : Int), cR cI (aN 2) 72 g2, cR cI (aN 3) 12 g3, cW (b 3) wa ow1, cR cI wa 12 of1, cR cI (b 4) 12 ot_1, cR cI (b 5) 12 os_2]) (rest := []) hE hP hD hS hA [] [0, 1, 2, 3, 4, 5, 6, 7] [0, 1, 2, 3, 4, 5, 6, 7] rfl rfl (by decide) (by decide) (by decide) (fun (u : Unit) => [cX x b ik rr hc, cT (b 1) aN ((n : Nat) : Int) ((k : Nat) : Int) ((d : Nat) : Int) ((v : Nat) : Int), cR cI (aN 2) 72 g2, cR cI (aN 3) 12 g3, cW (b 3) wa ow1, cR cI wa 12 of1, cR cI (b 4) 12 ot_1, cR cI (b 5) 12 os_2]) (fun u => rfl) (fun hPc hDc => zrunS (As := [.long (zL w2), .long (zL (fOdds n k κ ν π 0 1 3 ((i2 : Nat) : Int)))]) (rest := []) K k_X3_joined qm_X3_222 ⟨⟨rfl, rfl⟩, ⟨Nat.le_of_ble_eq_true rfl, Nat.le_of_ble_eq_true rfl⟩⟩ hPc hDc (c_X3_joined l D cI w2 (fOdds n k κ ν π 0 1 3 ((i2 : Nat) : Int)) _) rfl hl.1 rfl (Nat.le_of_ble_eq_true rfl) dX3_digestOfRoutine_90 ⟨Nat.zero_le _, Nat.zero_le _⟩) (by decide) (fun z u H locs hpost hP hD hS => ?_)
                      subst hpost
                      have hP : va_P D cls [cX x b ik rr hc, cT (b 1) aN ((n : Nat) : Int) ((k : Nat) : Int) ((d : Nat) : Int) ((v : Nat) : Int), cR cI (aN 2) 72 g2, cR cI (aN 3) 12 g3, cW (b 3) wa ow1, cR cI wa 12 of1, cR cI (b 4) 12 ot_1, cR cI (b 5) 12 os_2] H := hP
                      have hD : va_D (va_A [cX x b ik rr hc, cT (b 1) aN ((n : Nat) : Int) ((k : Nat) : Int) ((d : Nat) : Int) ((v : Nat) : Int), cR cI (aN 2) 72 g2, cR cI (aN 3) 12 g3, cW (b 3) wa w0, cR cI wa 12 gw, cR cI (b 4) 12 gt, cR cI (b 5) 12 gs] sz) [cX x b ik rr hc, cT (b 1) aN ((n : Nat) : Int) ((k : Nat) : Int) ((d : Nat) : Int) ((v : Nat) : Int), cR cI (aN 2) 72 g2, cR cI (aN 3) 12 g3, cW (b 3) wa ow1, cR cI wa 12 of1, cR cI (b 4) 12 ot_1, cR cI (b 5) 12 os_2] := hD
                      refine W.eq (g2 := F0 m 93 ls [.long (zL (31 * w2 + (fOdds n k κ ν π 0 1 3 ((i2 : Nat) : Int))))]) rfl ?_
                      refine lv_lstore_n (lv' := [(3, .long (zL (31 * w2 + (fOdds n k κ ν π 0 1 3 ((i2 : Nat) : Int))))), (0, .ref x), (1, .long (zL h0)), (5, .int (zI ((i2 : Nat) : Int)))]) hx hb dX3_digestOfRoutine_93 rfl hl (by decide) rfl (fun ls hl => ?_)
                      refine z_iinc (k := 3) (lv' := [(5, .int (zI (((i2 + 1) : Nat) : Int))), (3, .long (zL (31 * w2 + (fOdds n k κ ν π 0 1 3 ((i2 : Nat) : Int))))), (0, .ref x), (1, .long (zL h0))]) hx hb (((i2 + 1) : Nat) : Int) (by omega) dX3_digestOfRoutine_94 hl rfl (by decide) rfl (fun ls hl => ?_)
                      refine lv_goto (tgt := 73) hx hb dX3_digestOfRoutine_97 (by decide) ?_
                      exact ih_73 (i2 + 1) (31 * w2 + (fOdds n k κ ν π 0 1 3 ((i2 : Nat) : Int))) ot_1 os_2 (by omega) (by omega) (by rw [hw2]; rfl) _ _ _ hP hD hS (lv_sub hl [2, 3, 1, 0] rfl)
                exact cut_73 (2 - 0 + 1) 0 w ot1 gs (Nat.lt_succ_self _) (by omega) (by rfl) _ _ _ hP hD hS (lv_sub hl [1, 2, 3, 0] rfl)
              · refine lv_lload_n hx hb dX3_digestOfRoutine_50 rfl (lv_at hl 2 rfl) ?_
                refine lv_aload_n hx hb dX3_digestOfRoutine_51 rfl (lv_at hl 0 rfl) ?_
                refine lv_iconst (v := zI 0) hx hb dX3_digestOfRoutine_52 rfl ?_
                refine lv_iconst (v := zI 1) hx hb dX3_digestOfRoutine_53 rfl ?_
                refine lv_iload hx hb dX3_digestOfRoutine_54 (lv_at hl 3 rfl) ?_
                refine zcall_i (wc := [cX x b ik rr hc, cT (b 1) aN ((n : Nat) : Int) ((k : Nat) : Int) ((d : Nat) : Int) ((v : Nat) : Int), cR cI (aN 2) 72 g2, cR cI (aN 3) 12 g3, cR cI (b 4) 12 ot1]) (wr := [cW (b 3) wa ow1, cR cI wa 12 of1, cR cI (b 5) 12 gs]) (rest := [.long (zL w)]) hE hP hD hS hA [0, 1, 2, 3, 6] [4, 5, 7] [3, 4, 5, 6, 0, 1, 7, 2] rfl rfl (by decide) (by decide) (by decide) (fun (u : (Nat → Int)) => [cX x b ik rr hc, cT (b 1) aN ((n : Nat) : Int) ((k : Nat) : Int) ((d : Nat) : Int) ((v : Nat) : Int), cR cI (aN 2) 72 g2, cR cI (aN 3) 12 g3, cW (b 3) wa ow1, cR cI wa 12 of1, cR cI (b 4) 12 u, cR cI (b 5) 12 gs]) (fun u => rfl) (fun hPc hDc => zrunV (As := [.int (zI 0), .int (zI 1), .int (zI ((i1 : Nat) : Int))]) (rest := [.long (zL w)]) (q0 := 0) (ci := 3) K k_X3_bring qm_X3_244 ⟨⟨rfl, rfl⟩, ⟨Nat.le_of_ble_eq_true rfl, Nat.le_of_ble_eq_true rfl⟩⟩ rfl rfl hPc hDc (c_X3_bring l D cI x b ik rr hc aN n k d v g0 g1 g2 g3 g4 g5 g6 κ ν π ss sf st ot1 0 1 ((i1 : Nat) : Int) (by first | assumption | omega) (by first | assumption | omega) (by first | assumption | omega) (by first | assumption | omega) _) rfl hl.1 rfl (Nat.le_of_ble_eq_true rfl) dX3_digestOfRoutine_56 ⟨Nat.zero_le _, Nat.zero_le _⟩) (by decide) (fun z u H locs hpost hP hD hS => ?_)
                obtain ⟨ot_3, hu⟩ : ∃ z, z = u := ⟨_, rfl⟩
                subst hu
                obtain ⟨rfl, hzr_56⟩ := hpost
                have hzr_56 : -2147483648 ≤ (fBring n k κ ν π 0 1 ((i1 : Nat) : Int)) ∧ (fBring n k κ ν π 0 1 ((i1 : Nat) : Int)) < 2147483648 := hzr_56
                have hP : va_P D cls [cX x b ik rr hc, cT (b 1) aN ((n : Nat) : Int) ((k : Nat) : Int) ((d : Nat) : Int) ((v : Nat) : Int), cR cI (aN 2) 72 g2, cR cI (aN 3) 12 g3, cW (b 3) wa ow1, cR cI wa 12 of1, cR cI (b 4) 12 ot_3, cR cI (b 5) 12 gs] H := hP
                have hD : va_D (va_A [cX x b ik rr hc, cT (b 1) aN ((n : Nat) : Int) ((k : Nat) : Int) ((d : Nat) : Int) ((v : Nat) : Int), cR cI (aN 2) 72 g2, cR cI (aN 3) 12 g3, cW (b 3) wa w0, cR cI wa 12 gw, cR cI (b 4) 12 gt, cR cI (b 5) 12 gs] sz) [cX x b ik rr hc, cT (b 1) aN ((n : Nat) : Int) ((k : Nat) : Int) ((d : Nat) : Int) ((v : Nat) : Int), cR cI (aN 2) 72 g2, cR cI (aN 3) 12 g3, cW (b 3) wa ow1, cR cI wa 12 of1, cR cI (b 4) 12 ot_3, cR cI (b 5) 12 gs] := hD
                refine W.eq (g2 := F0 m 59 ls [.int (zI (fBring n k κ ν π 0 1 ((i1 : Nat) : Int))), .long (zL w)]) rfl ?_
                refine z_i2l hx hb (by omega) dX3_digestOfRoutine_59 ?_
                refine zcall_l (wc := []) (wr := [cX x b ik rr hc, cT (b 1) aN ((n : Nat) : Int) ((k : Nat) : Int) ((d : Nat) : Int) ((v : Nat) : Int), cR cI (aN 2) 72 g2, cR cI (aN 3) 12 g3, cW (b 3) wa ow1, cR cI wa 12 of1, cR cI (b 4) 12 ot_3, cR cI (b 5) 12 gs]) (rest := []) hE hP hD hS hA [] [0, 1, 2, 3, 4, 5, 6, 7] [0, 1, 2, 3, 4, 5, 6, 7] rfl rfl (by decide) (by decide) (by decide) (fun (u : Unit) => [cX x b ik rr hc, cT (b 1) aN ((n : Nat) : Int) ((k : Nat) : Int) ((d : Nat) : Int) ((v : Nat) : Int), cR cI (aN 2) 72 g2, cR cI (aN 3) 12 g3, cW (b 3) wa ow1, cR cI wa 12 of1, cR cI (b 4) 12 ot_3, cR cI (b 5) 12 gs]) (fun u => rfl) (fun hPc hDc => zrunS (As := [.long (zL w), .long (zL (fBring n k κ ν π 0 1 ((i1 : Nat) : Int)))]) (rest := []) K k_X3_joined qm_X3_222 ⟨⟨rfl, rfl⟩, ⟨Nat.le_of_ble_eq_true rfl, Nat.le_of_ble_eq_true rfl⟩⟩ hPc hDc (c_X3_joined l D cI w (fBring n k κ ν π 0 1 ((i1 : Nat) : Int)) _) rfl hl.1 rfl (Nat.le_of_ble_eq_true rfl) dX3_digestOfRoutine_60 ⟨Nat.zero_le _, Nat.zero_le _⟩) (by decide) (fun z u H locs hpost hP hD hS => ?_)
                subst hpost
                have hP : va_P D cls [cX x b ik rr hc, cT (b 1) aN ((n : Nat) : Int) ((k : Nat) : Int) ((d : Nat) : Int) ((v : Nat) : Int), cR cI (aN 2) 72 g2, cR cI (aN 3) 12 g3, cW (b 3) wa ow1, cR cI wa 12 of1, cR cI (b 4) 12 ot_3, cR cI (b 5) 12 gs] H := hP
                have hD : va_D (va_A [cX x b ik rr hc, cT (b 1) aN ((n : Nat) : Int) ((k : Nat) : Int) ((d : Nat) : Int) ((v : Nat) : Int), cR cI (aN 2) 72 g2, cR cI (aN 3) 12 g3, cW (b 3) wa w0, cR cI wa 12 gw, cR cI (b 4) 12 gt, cR cI (b 5) 12 gs] sz) [cX x b ik rr hc, cT (b 1) aN ((n : Nat) : Int) ((k : Nat) : Int) ((d : Nat) : Int) ((v : Nat) : Int), cR cI (aN 2) 72 g2, cR cI (aN 3) 12 g3, cW (b 3) wa ow1, cR cI wa 12 of1, cR cI (b 4) 12 ot_3, cR cI (b 5) 12 gs] := hD
                refine W.eq (g2 := F0 m 63 ls [.long (zL (31 * w + (fBring n k κ ν π 0 1 ((i1 : Nat) : Int))))]) rfl ?_
                refine lv_lstore_n (lv' := [(3, .long (zL (31 * w + (fBring n k κ ν π 0 1 ((i1 : Nat) : Int))))), (0, .ref x), (1, .long (zL h0)), (5, .int (zI ((i1 : Nat) : Int)))]) hx hb dX3_digestOfRoutine_63 rfl hl (by decide) rfl (fun ls hl => ?_)
                refine z_iinc (k := 3) (lv' := [(5, .int (zI (((i1 + 1) : Nat) : Int))), (3, .long (zL (31 * w + (fBring n k κ ν π 0 1 ((i1 : Nat) : Int))))), (0, .ref x), (1, .long (zL h0))]) hx hb (((i1 + 1) : Nat) : Int) (by omega) dX3_digestOfRoutine_64 hl rfl (by decide) rfl (fun ls hl => ?_)
                refine lv_goto (tgt := 44) hx hb dX3_digestOfRoutine_67 (by decide) ?_
                exact ih_44 (i1 + 1) (31 * w + (fBring n k κ ν π 0 1 ((i1 : Nat) : Int))) ot_3 (by omega) (by omega) (by rw [hw]; rfl) _ _ _ hP hD hS (lv_sub hl [2, 3, 1, 0] rfl)
          exact cut_44 (2 - 0 + 1) 0 y gt (Nat.lt_succ_self _) (by omega) (by rfl) _ _ _ hP hD hS (lv_sub hl [1, 2, 3, 0] rfl)
        · refine lv_lload_n hx hb dX3_digestOfRoutine_23 rfl (lv_at hl 2 rfl) ?_
          refine lv_aload_n hx hb dX3_digestOfRoutine_24 rfl (lv_at hl 0 rfl) ?_
          refine lv_iload hx hb dX3_digestOfRoutine_25 (lv_at hl 3 rfl) ?_
          refine zcall_i (wc := [cX x b ik rr hc, cT (b 1) aN ((n : Nat) : Int) ((k : Nat) : Int) ((d : Nat) : Int) ((v : Nat) : Int), cR cI (aN 2) 72 g2, cW (b 3) wa ow1, cR cI wa 12 of1]) (wr := [cR cI (aN 3) 12 g3, cR cI (b 4) 12 gt, cR cI (b 5) 12 gs]) (rest := [.long (zL y)]) hE hP hD hS hA [0, 1, 2, 4, 5] [3, 6, 7] [3, 4, 5, 0, 6, 7, 1, 2] rfl rfl (by decide) (by decide) (by decide) (fun (u : (Int) × (Nat → Int)) => [cX x b ik rr hc, cT (b 1) aN ((n : Nat) : Int) ((k : Nat) : Int) ((d : Nat) : Int) ((v : Nat) : Int), cR cI (aN 2) 72 g2, cR cI (aN 3) 12 g3, cW (b 3) wa u.1, cR cI wa 12 u.2, cR cI (b 4) 12 gt, cR cI (b 5) 12 gs]) (fun u => rfl) (fun hPc hDc => zrunV (As := [.int (zI ((i : Nat) : Int))]) (rest := [.long (zL y)]) (q0 := 0) (ci := 3) K k_X3_rings qm_X3_241 ⟨⟨rfl, rfl⟩, ⟨Nat.le_of_ble_eq_true rfl, Nat.le_of_ble_eq_true rfl⟩⟩ rfl rfl hPc hDc (c_X3_rings l D cI x b ik rr hc aN n k d v g0 g1 g2 g3 g4 g5 g6 κ ν π ss sf st wa ow1 of1 ((i : Nat) : Int) (by first | assumption | omega) (by first | assumption | omega) _) rfl hl.1 rfl (Nat.le_of_ble_eq_true rfl) dX3_digestOfRoutine_27 ⟨Nat.zero_le _, Nat.zero_le _⟩) (by decide) (fun z u H locs hpost hP hD hS => ?_)
          obtain ⟨ow_4, of_5⟩ := u
          obtain ⟨rfl, hzr_27⟩ := hpost
          have hzr_27 : -2147483648 ≤ (fRings n k κ ν ((i : Nat) : Int)) ∧ (fRings n k κ ν ((i : Nat) : Int)) < 2147483648 := hzr_27
          have hP : va_P D cls [cX x b ik rr hc, cT (b 1) aN ((n : Nat) : Int) ((k : Nat) : Int) ((d : Nat) : Int) ((v : Nat) : Int), cR cI (aN 2) 72 g2, cR cI (aN 3) 12 g3, cW (b 3) wa ow_4, cR cI wa 12 of_5, cR cI (b 4) 12 gt, cR cI (b 5) 12 gs] H := hP
          have hD : va_D (va_A [cX x b ik rr hc, cT (b 1) aN ((n : Nat) : Int) ((k : Nat) : Int) ((d : Nat) : Int) ((v : Nat) : Int), cR cI (aN 2) 72 g2, cR cI (aN 3) 12 g3, cW (b 3) wa w0, cR cI wa 12 gw, cR cI (b 4) 12 gt, cR cI (b 5) 12 gs] sz) [cX x b ik rr hc, cT (b 1) aN ((n : Nat) : Int) ((k : Nat) : Int) ((d : Nat) : Int) ((v : Nat) : Int), cR cI (aN 2) 72 g2, cR cI (aN 3) 12 g3, cW (b 3) wa ow_4, cR cI wa 12 of_5, cR cI (b 4) 12 gt, cR cI (b 5) 12 gs] := hD
          refine W.eq (g2 := F0 m 30 ls [.int (zI (fRings n k κ ν ((i : Nat) : Int))), .long (zL y)]) rfl ?_
          refine z_i2l hx hb (by omega) dX3_digestOfRoutine_30 ?_
          refine zcall_l (wc := []) (wr := [cX x b ik rr hc, cT (b 1) aN ((n : Nat) : Int) ((k : Nat) : Int) ((d : Nat) : Int) ((v : Nat) : Int), cR cI (aN 2) 72 g2, cR cI (aN 3) 12 g3, cW (b 3) wa ow_4, cR cI wa 12 of_5, cR cI (b 4) 12 gt, cR cI (b 5) 12 gs]) (rest := []) hE hP hD hS hA [] [0, 1, 2, 3, 4, 5, 6, 7] [0, 1, 2, 3, 4, 5, 6, 7] rfl rfl (by decide) (by decide) (by decide) (fun (u : Unit) => [cX x b ik rr hc, cT (b 1) aN ((n : Nat) : Int) ((k : Nat) : Int) ((d : Nat) : Int) ((v : Nat) : Int), cR cI (aN 2) 72 g2, cR cI (aN 3) 12 g3, cW (b 3) wa ow_4, cR cI wa 12 of_5, cR cI (b 4) 12 gt, cR cI (b 5) 12 gs]) (fun u => rfl) (fun hPc hDc => zrunS (As := [.long (zL y), .long (zL (fRings n k κ ν ((i : Nat) : Int)))]) (rest := []) K k_X3_joined qm_X3_222 ⟨⟨rfl, rfl⟩, ⟨Nat.le_of_ble_eq_true rfl, Nat.le_of_ble_eq_true rfl⟩⟩ hPc hDc (c_X3_joined l D cI y (fRings n k κ ν ((i : Nat) : Int)) _) rfl hl.1 rfl (Nat.le_of_ble_eq_true rfl) dX3_digestOfRoutine_31 ⟨Nat.zero_le _, Nat.zero_le _⟩) (by decide) (fun z u H locs hpost hP hD hS => ?_)
          subst hpost
          have hP : va_P D cls [cX x b ik rr hc, cT (b 1) aN ((n : Nat) : Int) ((k : Nat) : Int) ((d : Nat) : Int) ((v : Nat) : Int), cR cI (aN 2) 72 g2, cR cI (aN 3) 12 g3, cW (b 3) wa ow_4, cR cI wa 12 of_5, cR cI (b 4) 12 gt, cR cI (b 5) 12 gs] H := hP
          have hD : va_D (va_A [cX x b ik rr hc, cT (b 1) aN ((n : Nat) : Int) ((k : Nat) : Int) ((d : Nat) : Int) ((v : Nat) : Int), cR cI (aN 2) 72 g2, cR cI (aN 3) 12 g3, cW (b 3) wa w0, cR cI wa 12 gw, cR cI (b 4) 12 gt, cR cI (b 5) 12 gs] sz) [cX x b ik rr hc, cT (b 1) aN ((n : Nat) : Int) ((k : Nat) : Int) ((d : Nat) : Int) ((v : Nat) : Int), cR cI (aN 2) 72 g2, cR cI (aN 3) 12 g3, cW (b 3) wa ow_4, cR cI wa 12 of_5, cR cI (b 4) 12 gt, cR cI (b 5) 12 gs] := hD
          refine W.eq (g2 := F0 m 34 ls [.long (zL (31 * y + (fRings n k κ ν ((i : Nat) : Int))))]) rfl ?_
          refine lv_lstore_n (lv' := [(3, .long (zL (31 * y + (fRings n k κ ν ((i : Nat) : Int))))), (0, .ref x), (1, .long (zL h0)), (5, .int (zI ((i : Nat) : Int)))]) hx hb dX3_digestOfRoutine_34 rfl hl (by decide) rfl (fun ls hl => ?_)
          refine z_iinc (k := 3) (lv' := [(5, .int (zI (((i + 1) : Nat) : Int))), (3, .long (zL (31 * y + (fRings n k κ ν ((i : Nat) : Int))))), (0, .ref x), (1, .long (zL h0))]) hx hb (((i + 1) : Nat) : Int) (by omega) dX3_digestOfRoutine_35 hl rfl (by decide) rfl (fun ls hl => ?_)
          refine lv_goto (tgt := 17) hx hb dX3_digestOfRoutine_38 (by decide) ?_
          exact ih_17 (i + 1) (31 * y + (fRings n k κ ν ((i : Nat) : Int))) ow_4 of_5 (by omega) (by omega) (by rw [hy]; rfl) _ _ _ hP hD hS (lv_sub hl [2, 3, 1, 0] rfl)
    exact cut_17 (4 - 0 + 1) 0 h0 w0 gw (Nat.lt_succ_self _) (by omega) (by rfl) _ _ _ hP hD hS (lv_sub hl [2, 3, 1, 0] rfl)
  · have b_7 := b01_eq c_7
    refine lv_lload_n hx hb dX3_digestOfRoutine_10 rfl (lv_at hl 1 rfl) ?_
    rw [← hQf]
    exact z_lret K hS (w0, gw, gt, gs) (by rw [fDr, if_pos (by omega)]) hP hD dX3_digestOfRoutine_11
set_option maxHeartbeats 4000000 in
set_option maxRecDepth 100000 in
theorem c_X3_digest (l : Launch) (D : va_G) (cI : ClassId) (x : Nat) (b : Nat → Nat) (ik : Int) (rr hc : Nat) (aN : Nat → Nat) (n k d v : Nat) (g0 g1 g2 g3 g4 g5 g6 : Nat → Int) (κ ν π ss sf st : Nat → Nat) (wa : Nat) (w0 : Int) (gw : Nat → Int) (gt gs : Nat → Int) (lp pl : Nat) (gl : Nat → Int) (lt : Nat → Nat) (hT : TI n k d v g0 g1 g2 g3 g4 g5 g6 κ ν π ss sf st) (hpl : pl ≤ 22) (hrr : rr ≤ 5000) (hhc : hc ≤ 30) (hgl : ∀ j, j < pl → gl j = ((lt j : Nat) : Int)) (hlt : ∀ j, j < pl → lt j ≤ 126) : zMl l yX3_digest cX3_digest 4 (some .long) ({ frames := 7, cells := 0, slots := 0, locals := 174 }) D cI [.ref x] [cX x b ik ((rr : Nat) : Int) ((hc : Nat) : Int), cP (b 0) lp ((pl : Nat) : Int), cR cI lp 22 gl, cT (b 1) aN ((n : Nat) : Int) ((k : Nat) : Int) ((d : Nat) : Int) ((v : Nat) : Int), cR cI (aN 0) 6 g0, cR cI (aN 1) 6 g1, cR cI (aN 2) 72 g2, cR cI (aN 3) 12 g3, cR cI (aN 4) 6 g4, cR cI (aN 5) 6 g5, cR cI (aN 6) 6 g6, cW (b 3) wa w0, cR cI wa 12 gw, cR cI (b 4) 12 gt, cR cI (b 5) 12 gs] (fun (z : Int) (u : (Int) × (Nat → Int) × (Nat → Int) × (Nat → Int)) => z = (fDigest n k d v κ ν π ss sf st pl lt rr hc)) (fun (u : (Int) × (Nat → Int) × (Nat → Int) × (Nat → Int)) => [cX x b ik ((rr : Nat) : Int) ((hc : Nat) : Int), cP (b 0) lp ((pl : Nat) : Int), cR cI lp 22 gl, cT (b 1) aN ((n : Nat) : Int) ((k : Nat) : Int) ((d : Nat) : Int) ((v : Nat) : Int), cR cI (aN 0) 6 g0, cR cI (aN 1) 6 g1, cR cI (aN 2) 72 g2, cR cI (aN 3) 12 g3, cR cI (aN 4) 6 g4, cR cI (aN 5) 6 g5, cR cI (aN 6) 6 g6, cW (b 3) wa u.1, cR cI wa 12 u.2.1, cR cI (b 4) 12 u.2.2.1, cR cI (b 5) 12 u.2.2.2]) := by
  intro sz
  refine zstart rfl (by decide) (Nat.le_of_ble_eq_true rfl) ?_
  intro p e s m below meth c ls K hnm hsz hP hD hS hl
  generalize hargs : ([.ref x] : List Value).toArray = args at K ⊢
  generalize hQf : MQ below _ args s _ _ _ = Qf
  have K : zK p s m args meth c cX3_digest 4 RX3 (some .long) D cI := K
  obtain ⟨hx, hb, hml, hown, hts, hE, -, -⟩ := id K
  have hA := zhA (ws0 := [cX x b ik ((rr : Nat) : Int) ((hc : Nat) : Int), cP (b 0) lp ((pl : Nat) : Int), cR cI lp 22 gl, cT (b 1) aN ((n : Nat) : Int) ((k : Nat) : Int) ((d : Nat) : Int) ((v : Nat) : Int), cR cI (aN 0) 6 g0, cR cI (aN 1) 6 g1, cR cI (aN 2) 72 g2, cR cI (aN 3) 12 g3, cR cI (aN 4) 6 g4, cR cI (aN 5) 6 g5, cR cI (aN 6) 6 g6, cW (b 3) wa w0, cR cI wa 12 gw, cR cI (b 4) 12 gt, cR cI (b 5) 12 gs]) hsz
  have hl : lv_has ls 4 [(0, .ref x)] := hl
  obtain ⟨hnk, -⟩ := id hT
  refine lv_aload_n hx hb dX3_digest_0 rfl (lv_at hl 0 rfl) ?_
  refine lv_aload_n hx hb dX3_digest_1 rfl (lv_at hl 0 rfl) ?_
  refine lv_aload_n hx hb dX3_digest_2 rfl (lv_at hl 0 rfl) ?_
  refine lv_ldc2 (v := zL 1321) hx hb hown (hts _ qk_X3_207) dX3_digest_3 ?_
  refine zcall_l (wc := [cX x b ik ((rr : Nat) : Int) ((hc : Nat) : Int), cT (b 1) aN ((n : Nat) : Int) ((k : Nat) : Int) ((d : Nat) : Int) ((v : Nat) : Int), cR cI (aN 0) 6 g0, cR cI (aN 1) 6 g1, cR cI (aN 2) 72 g2, cR cI (aN 4) 6 g4, cR cI (aN 5) 6 g5, cR cI (aN 6) 6 g6, cW (b 3) wa w0, cR cI wa 12 gw, cR cI (b 4) 12 gt]) (wr := [cP (b 0) lp ((pl : Nat) : Int), cR cI lp 22 gl, cR cI (aN 3) 12 g3, cR cI (b 5) 12 gs]) (rest := [.ref x, .ref x]) hE hP hD hS hA [0, 3, 4, 5, 6, 8, 9, 10, 11, 12, 13] [1, 2, 7, 14] [4, 0, 1, 5, 6, 7, 8, 2, 9, 10, 11, 12, 13, 14, 3] rfl rfl (by decide) (by decide) (by decide) (fun (u : (Int) × (Nat → Int) × (Nat → Int)) => [cX x b ik ((rr : Nat) : Int) ((hc : Nat) : Int), cP (b 0) lp ((pl : Nat) : Int), cR cI lp 22 gl, cT (b 1) aN ((n : Nat) : Int) ((k : Nat) : Int) ((d : Nat) : Int) ((v : Nat) : Int), cR cI (aN 0) 6 g0, cR cI (aN 1) 6 g1, cR cI (aN 2) 72 g2, cR cI (aN 3) 12 g3, cR cI (aN 4) 6 g4, cR cI (aN 5) 6 g5, cR cI (aN 6) 6 g6, cW (b 3) wa u.1, cR cI wa 12 u.2.1, cR cI (b 4) 12 u.2.2, cR cI (b 5) 12 gs]) (fun u => rfl) (fun hPc hDc => zrunV (As := [.long (zL 1321)]) (rest := [.ref x, .ref x]) (q0 := 0) (ci := 3) K k_X3_digestOfSteps qm_X3_209 ⟨⟨rfl, rfl⟩, ⟨Nat.le_of_ble_eq_true rfl, Nat.le_of_ble_eq_true rfl⟩⟩ rfl rfl hPc hDc (c_X3_digestOfSteps l D cI x b ik ((rr : Nat) : Int) ((hc : Nat) : Int) aN n k d v g0 g1 g2 g3 g4 g5 g6 κ ν π ss sf st wa w0 gw gt 1321 (by first | assumption | omega) _) rfl hl.1 rfl (Nat.le_of_ble_eq_true rfl) dX3_digest_6 ⟨Nat.zero_le _, Nat.zero_le _⟩) (by decide) (fun z u H locs hpost hP hD hS => ?_)
  obtain ⟨ow_1, of_2, ot_3⟩ := u
  subst hpost
  have hP : va_P D cls [cX x b ik ((rr : Nat) : Int) ((hc : Nat) : Int), cP (b 0) lp ((pl : Nat) : Int), cR cI lp 22 gl, cT (b 1) aN ((n : Nat) : Int) ((k : Nat) : Int) ((d : Nat) : Int) ((v : Nat) : Int), cR cI (aN 0) 6 g0, cR cI (aN 1) 6 g1, cR cI (aN 2) 72 g2, cR cI (aN 3) 12 g3, cR cI (aN 4) 6 g4, cR cI (aN 5) 6 g5, cR cI (aN 6) 6 g6, cW (b 3) wa ow_1, cR cI wa 12 of_2, cR cI (b 4) 12 ot_3, cR cI (b 5) 12 gs] H := hP
  have hD : va_D (va_A [cX x b ik ((rr : Nat) : Int) ((hc : Nat) : Int), cP (b 0) lp ((pl : Nat) : Int), cR cI lp 22 gl, cT (b 1) aN ((n : Nat) : Int) ((k : Nat) : Int) ((d : Nat) : Int) ((v : Nat) : Int), cR cI (aN 0) 6 g0, cR cI (aN 1) 6 g1, cR cI (aN 2) 72 g2, cR cI (aN 3) 12 g3, cR cI (aN 4) 6 g4, cR cI (aN 5) 6 g5, cR cI (aN 6) 6 g6, cW (b 3) wa w0, cR cI wa 12 gw, cR cI (b 4) 12 gt, cR cI (b 5) 12 gs] sz) [cX x b ik ((rr : Nat) : Int) ((hc : Nat) : Int), cP (b 0) lp ((pl : Nat) : Int), cR cI lp 22 gl, cT (b 1) aN ((n : Nat) : Int) ((k : Nat) : Int) ((d : Nat) : Int) ((v : Nat) : Int), cR cI (aN 0) 6 g0, cR cI (aN 1) 6 g1, cR cI (aN 2) 72 g2, cR cI (aN 3) 12 g3, cR cI (aN 4) 6 g4, cR cI (aN 5) 6 g5, cR cI (aN 6) 6 g6, cW (b 3) wa ow_1, cR cI wa 12 of_2, cR cI (b 4) 12 ot_3, cR cI (b 5) 12 gs] := hD
  refine W.eq (g2 := F0 m 9 ls [.long (zL (fDs n k κ ν v ss sf st 1321)), .ref x, .ref x]) rfl ?_
  refine zcall_l (wc := [cX x b ik ((rr : Nat) : Int) ((hc : Nat) : Int), cT (b 1) aN ((n : Nat) : Int) ((k : Nat) : Int) ((d : Nat) : Int) ((v : Nat) : Int), cR cI (aN 2) 72 g2, cR cI (aN 3) 12 g3, cW (b 3) wa ow_1, cR cI wa 12 of_2]) (wr := [cP (b 0) lp ((pl : Nat) : Int), cR cI lp 22 gl, cR cI (aN 0) 6 g0, cR cI (aN 1) 6 g1, cR cI (aN 4) 6 g4, cR cI (aN 5) 6 g5, cR cI (aN 6) 6 g6, cR cI (b 4) 12 ot_3, cR cI (b 5) 12 gs]) (rest := [.ref x]) hE hP hD hS hA [0, 3, 6, 7, 11, 12] [1, 2, 4, 5, 8, 9, 10, 13, 14] [9, 0, 1, 10, 2, 3, 11, 12, 4, 5, 6, 13, 14, 7, 8] rfl rfl (by decide) (by decide) (by decide) (fun (u : (Int) × (Nat → Int)) => [cX x b ik ((rr : Nat) : Int) ((hc : Nat) : Int), cP (b 0) lp ((pl : Nat) : Int), cR cI lp 22 gl, cT (b 1) aN ((n : Nat) : Int) ((k : Nat) : Int) ((d : Nat) : Int) ((v : Nat) : Int), cR cI (aN 0) 6 g0, cR cI (aN 1) 6 g1, cR cI (aN 2) 72 g2, cR cI (aN 3) 12 g3, cR cI (aN 4) 6 g4, cR cI (aN 5) 6 g5, cR cI (aN 6) 6 g6, cW (b 3) wa u.1, cR cI wa 12 u.2, cR cI (b 4) 12 ot_3, cR cI (b 5) 12 gs]) (fun u => rfl) (fun hPc hDc => zrunV (As := [.long (zL (fDs n k κ ν v ss sf st 1321))]) (rest := [.ref x]) (q0 := 0) (ci := 3) K k_X3_digestOfPlaces qm_X3_213 ⟨⟨rfl, rfl⟩, ⟨Nat.le_of_ble_eq_true rfl, Nat.le_of_ble_eq_true rfl⟩⟩ rfl rfl hPc hDc (c_X3_digestOfPlaces l D cI x b ik ((rr : Nat) : Int) ((hc : Nat) : Int) aN n k d v g0 g1 g2 g3 g4 g5 g6 κ ν π ss sf st wa ow_1 of_2 (fDs n k κ ν v ss sf st 1321) (by first | assumption | omega) _) rfl hl.1 rfl (Nat.le_of_ble_eq_true rfl) dX3_digest_9 ⟨Nat.zero_le _, Nat.zero_le _⟩) (by decide) (fun z u H locs hpost hP hD hS => ?_)
  obtain ⟨ow_4, of_5⟩ := u
  subst hpost
  have hP : va_P D cls [cX x b ik ((rr : Nat) : Int) ((hc : Nat) : Int), cP (b 0) lp ((pl : Nat) : Int), cR cI lp 22 gl, cT (b 1) aN ((n : Nat) : Int) ((k : Nat) : Int) ((d : Nat) : Int) ((v : Nat) : Int), cR cI (aN 0) 6 g0, cR cI (aN 1) 6 g1, cR cI (aN 2) 72 g2, cR cI (aN 3) 12 g3, cR cI (aN 4) 6 g4, cR cI (aN 5) 6 g5, cR cI (aN 6) 6 g6, cW (b 3) wa ow_4, cR cI wa 12 of_5, cR cI (b 4) 12 ot_3, cR cI (b 5) 12 gs] H := hP
  have hD : va_D (va_A [cX x b ik ((rr : Nat) : Int) ((hc : Nat) : Int), cP (b 0) lp ((pl : Nat) : Int), cR cI lp 22 gl, cT (b 1) aN ((n : Nat) : Int) ((k : Nat) : Int) ((d : Nat) : Int) ((v : Nat) : Int), cR cI (aN 0) 6 g0, cR cI (aN 1) 6 g1, cR cI (aN 2) 72 g2, cR cI (aN 3) 12 g3, cR cI (aN 4) 6 g4, cR cI (aN 5) 6 g5, cR cI (aN 6) 6 g6, cW (b 3) wa w0, cR cI wa 12 gw, cR cI (b 4) 12 gt, cR cI (b 5) 12 gs] sz) [cX x b ik ((rr : Nat) : Int) ((hc : Nat) : Int), cP (b 0) lp ((pl : Nat) : Int), cR cI lp 22 gl, cT (b 1) aN ((n : Nat) : Int) ((k : Nat) : Int) ((d : Nat) : Int) ((v : Nat) : Int), cR cI (aN 0) 6 g0, cR cI (aN 1) 6 g1, cR cI (aN 2) 72 g2, cR cI (aN 3) 12 g3, cR cI (aN 4) 6 g4, cR cI (aN 5) 6 g5, cR cI (aN 6) 6 g6, cW (b 3) wa ow_4, cR cI wa 12 of_5, cR cI (b 4) 12 ot_3, cR cI (b 5) 12 gs] := hD
  refine W.eq (g2 := F0 m 12 ls [.long (zL (fDp n k κ ν π (fDs n k κ ν v ss sf st 1321))), .ref x]) rfl ?_
  refine zcall_l (wc := [cX x b ik ((rr : Nat) : Int) ((hc : Nat) : Int), cT (b 1) aN ((n : Nat) : Int) ((k : Nat) : Int) ((d : Nat) : Int) ((v : Nat) : Int), cR cI (aN 2) 72 g2, cR cI (aN 3) 12 g3, cW (b 3) wa ow_4, cR cI wa 12 of_5, cR cI (b 4) 12 ot_3, cR cI (b 5) 12 gs]) (wr := [cP (b 0) lp ((pl : Nat) : Int), cR cI lp 22 gl, cR cI (aN 0) 6 g0, cR cI (aN 1) 6 g1, cR cI (aN 4) 6 g4, cR cI (aN 5) 6 g5, cR cI (aN 6) 6 g6]) (rest := []) hE hP hD hS hA [0, 3, 6, 7, 11, 12, 13, 14] [1, 2, 4, 5, 8, 9, 10] [7, 0, 1, 8, 2, 3, 9, 10, 4, 5, 6, 11, 12, 13, 14] rfl rfl (by decide) (by decide) (by decide) (fun (u : (Int) × (Nat → Int) × (Nat → Int) × (Nat → Int)) => [cX x b ik ((rr : Nat) : Int) ((hc : Nat) : Int), cP (b 0) lp ((pl : Nat) : Int), cR cI lp 22 gl, cT (b 1) aN ((n : Nat) : Int) ((k : Nat) : Int) ((d : Nat) : Int) ((v : Nat) : Int), cR cI (aN 0) 6 g0, cR cI (aN 1) 6 g1, cR cI (aN 2) 72 g2, cR cI (aN 3) 12 g3, cR cI (aN 4) 6 g4, cR cI (aN 5) 6 g5, cR cI (aN 6) 6 g6, cW (b 3) wa u.1, cR cI wa 12 u.2.1, cR cI (b 4) 12 u.2.2.1, cR cI (b 5) 12 u.2.2.2]) (fun u => rfl) (fun hPc hDc => zrunV (As := [.long (zL (fDp n k κ ν π (fDs n k κ ν v ss sf st 1321)))]) (rest := []) (q0 := 0) (ci := 3) K k_X3_digestOfRoutine qm_X3_216 ⟨⟨rfl, rfl⟩, ⟨Nat.le_of_ble_eq_true rfl, Nat.le_of_ble_eq_true rfl⟩⟩ rfl rfl hPc hDc (c_X3_digestOfRoutine l D cI x b ik ((rr : Nat) : Int) ((hc : Nat) : Int) aN n k d v g0 g1 g2 g3 g4 g5 g6 κ ν π ss sf st wa ow_4 of_5 ot_3 gs (fDp n k κ ν π (fDs n k κ ν v ss sf st 1321)) (by first | assumption | omega) _) rfl hl.1 rfl (Nat.le_of_ble_eq_true rfl) dX3_digest_12 ⟨Nat.zero_le _, Nat.zero_le _⟩) (by decide) (fun z u H locs hpost hP hD hS => ?_)
  obtain ⟨ow_6, of_7, ot_8, os_9⟩ := u
  subst hpost
  have hP : va_P D cls [cX x b ik ((rr : Nat) : Int) ((hc : Nat) : Int), cP (b 0) lp ((pl : Nat) : Int), cR cI lp 22 gl, cT (b 1) aN ((n : Nat) : Int) ((k : Nat) : Int) ((d : Nat) : Int) ((v : Nat) : Int), cR cI (aN 0) 6 g0, cR cI (aN 1) 6 g1, cR cI (aN 2) 72 g2, cR cI (aN 3) 12 g3, cR cI (aN 4) 6 g4, cR cI (aN 5) 6 g5, cR cI (aN 6) 6 g6, cW (b 3) wa ow_6, cR cI wa 12 of_7, cR cI (b 4) 12 ot_8, cR cI (b 5) 12 os_9] H := hP
  have hD : va_D (va_A [cX x b ik ((rr : Nat) : Int) ((hc : Nat) : Int), cP (b 0) lp ((pl : Nat) : Int), cR cI lp 22 gl, cT (b 1) aN ((n : Nat) : Int) ((k : Nat) : Int) ((d : Nat) : Int) ((v : Nat) : Int), cR cI (aN 0) 6 g0, cR cI (aN 1) 6 g1, cR cI (aN 2) 72 g2, cR cI (aN 3) 12 g3, cR cI (aN 4) 6 g4, cR cI (aN 5) 6 g5, cR cI (aN 6) 6 g6, cW (b 3) wa w0, cR cI wa 12 gw, cR cI (b 4) 12 gt, cR cI (b 5) 12 gs] sz) [cX x b ik ((rr : Nat) : Int) ((hc : Nat) : Int), cP (b 0) lp ((pl : Nat) : Int), cR cI lp 22 gl, cT (b 1) aN ((n : Nat) : Int) ((k : Nat) : Int) ((d : Nat) : Int) ((v : Nat) : Int), cR cI (aN 0) 6 g0, cR cI (aN 1) 6 g1, cR cI (aN 2) 72 g2, cR cI (aN 3) 12 g3, cR cI (aN 4) 6 g4, cR cI (aN 5) 6 g5, cR cI (aN 6) 6 g6, cW (b 3) wa ow_6, cR cI wa 12 of_7, cR cI (b 4) 12 ot_8, cR cI (b 5) 12 os_9] := hD
  refine W.eq (g2 := F0 m 15 ls [.long (zL (fDr n k κ ν π (fDp n k κ ν π (fDs n k κ ν v ss sf st 1321))))]) rfl ?_
  refine lv_lstore_n (lv' := [(1, .long (zL (fDr n k κ ν π (fDp n k κ ν π (fDs n k κ ν v ss sf st 1321))))), (0, .ref x)]) hx hb dX3_digest_15 rfl hl (by decide) rfl (fun ls hl => ?_)
  refine lv_iconst (v := zI 0) hx hb dX3_digest_16 rfl ?_
  refine lv_istore_n (lv' := [(3, .int (zI 0)), (1, .long (zL (fDr n k κ ν π (fDp n k κ ν π (fDs n k κ ν v ss sf st 1321))))), (0, .ref x)]) hx hb dX3_digest_17 rfl hl (by decide) rfl (fun ls hl => ?_)
  have cut_18 : ∀ (N_18 : Nat), ∀ (i : Nat) (y : Int), pl - i < N_18 → (i ≤ pl) → (y = hF (fun i => ((lt i : Nat) : Int)) i (fDr n k κ ν π (fDp n k κ ν π (fDs n k κ ν v ss sf st 1321)))) → ∀ (H : Heap) (locs : List Loc) (ls : Array Slot), va_P D cls [cX x b ik ((rr : Nat) : Int) ((hc : Nat) : Int), cP (b 0) lp ((pl : Nat) : Int), cR cI lp 22 gl, cT (b 1) aN ((n : Nat) : Int) ((k : Nat) : Int) ((d : Nat) : Int) ((v : Nat) : Int), cR cI (aN 0) 6 g0, cR cI (aN 1) 6 g1, cR cI (aN 2) 72 g2, cR cI (aN 3) 12 g3, cR cI (aN 4) 6 g4, cR cI (aN 5) 6 g5, cR cI (aN 6) 6 g6, cW (b 3) wa ow_6, cR cI wa 12 of_7, cR cI (b 4) 12 ot_8, cR cI (b 5) 12 os_9] H → va_D (va_A [cX x b ik ((rr : Nat) : Int) ((hc : Nat) : Int), cP (b 0) lp ((pl : Nat) : Int), cR cI lp 22 gl, cT (b 1) aN ((n : Nat) : Int) ((k : Nat) : Int) ((d : Nat) : Int) ((v : Nat) : Int), cR cI (aN 0) 6 g0, cR cI (aN 1) 6 g1, cR cI (aN 2) 72 g2, cR cI (aN 3) 12 g3, cR cI (aN 4) 6 g4, cR cI (aN 5) 6 g5, cR cI (aN 6) 6 g6, cW (b 3) wa w0, cR cI wa 12 gw, cR cI (b 4) 12 gt, cR cI (b 5) 12 gs] sz) [cX x b ik ((rr : Nat) : Int) ((hc : Nat) : Int), cP (b 0) lp ((pl : Nat) : Int), cR cI lp 22 gl, cT (b 1) aN ((n : Nat) : Int) ((k : Nat) : Int) ((d : Nat) : Int) ((v : Nat) : Int), cR cI (aN 0) 6 g0, cR cI (aN 1) 6 g1, cR cI (aN 2) 72 g2, cR cI (aN 3) 12 g3, cR cI (aN 4) 6 g4, cR cI (aN 5) 6 g5, cR cI (aN 6) 6 g6, cW (b 3) wa ow_6, cR cI wa 12 of_7, cR cI (b 4) 12 ot_8, cR cI (b 5) 12 os_9] → va_S (va_A [cX x b ik ((rr : Nat) : Int) ((hc : Nat) : Int), cP (b 0) lp ((pl : Nat) : Int), cR cI lp 22 gl, cT (b 1) aN ((n : Nat) : Int) ((k : Nat) : Int) ((d : Nat) : Int) ((v : Nat) : Int), cR cI (aN 0) 6 g0, cR cI (aN 1) 6 g1, cR cI (aN 2) 72 g2, cR cI (aN 3) 12 g3, cR cI (aN 4) 6 g4, cR cI (aN 5) 6 g5, cR cI (aN 6) 6 g6, cW (b 3) wa w0, cR cI wa 12 gw, cR cI (b 4) 12 gt, cR cI (b 5) 12 gs] sz) s.heap H locs → lv_has ls 4 [(0, .ref x), (1, .long (zL y)), (3, .int (zI ((i : Nat) : Int)))] → W p l e ({ frames := 7, cells := 0, slots := 0, locals := 174 }) s m args below meth c H locs 0 0 Qf (F0 m 18 ls []) := by
    intro N_18
    induction N_18 with
    | zero => intro i y hm_18; exact absurd hm_18 (Nat.not_lt_zero _)
    | succ N_18 ih_18 =>
      intro i y hm_18 hi hy H locs ls hP hD hS hl
      refine lv_iload_n hx hb dX3_digest_18 rfl (lv_at hl 2 rfl) ?_
      refine lv_aload_n hx hb dX3_digest_19 rfl (lv_at hl 0 rfl) ?_
      refine va_get (D := D) (ci := 3) (v := .ref (b 0)) (C := RX3) (T := TX3) (N := 10) hx hb hts inT_X3 hown hE.1 hP 0 rfl rfl 0 (by decide) (hts _ qf_X3_10) (fun _ h9 => h9) rfl dX3_digest_20 ?_
      refine va_getN (D := D) (ci := 0) (v := .int (zI ((pl : Nat) : Int))) (C := RX0) (T := TX0) (N := 2) hx hb hts inT_X0 hown hE.1 hP 1 rfl rfl 1 (by decide) (va_Nw.use rfl (hE.2 _ nf_X3_43 rfl)) (fun _ h9 => h9) rfl dX3_digest_23 ?_
      refine z_icmp_ge (tgt := 50) hx hb (by omega) dX3_digest_26 (by decide) (fun c_26 => ?_) (fun c_26 => ?_)
      · refine lv_iconst (v := zI 0) hx hb dX3_digest_50 rfl ?_
        refine lv_istore_n (lv' := [(3, .int (zI 0)), (0, .ref x), (1, .long (zL y))]) hx hb dX3_digest_51 rfl hl (by decide) rfl (fun ls hl => ?_)
        have cut_52 : ∀ (N_52 : Nat), ∀ (i1 : Nat) (w : Int), 9 - i1 < N_52 → (i1 ≤ 9) → (w = hF (fun w => fCount n k d v π pl rr hc (w : Int)) i1 y) → ∀ (H : Heap) (locs : List Loc) (ls : Array Slot), va_P D cls [cX x b ik ((rr : Nat) : Int) ((hc : Nat) : Int), cP (b 0) lp ((pl : Nat) : Int), cR cI lp 22 gl, cT (b 1) aN ((n : Nat) : Int) ((k : Nat) : Int) ((d : Nat) : Int) ((v : Nat) : Int), cR cI (aN 0) 6 g0, cR cI (aN 1) 6 g1, cR cI (aN 2) 72 g2, cR cI (aN 3) 12 g3, cR cI (aN 4) 6 g4, cR cI (aN 5) 6 g5, cR cI (aN 6) 6 g6, cW (b 3) wa ow_6, cR cI wa 12 of_7, cR cI (b 4) 12 ot_8, cR cI (b 5) 12 os_9] H → va_D (va_A [cX x b ik ((rr : Nat) : Int) ((hc : Nat) : Int), cP (b 0) lp ((pl : Nat) : Int), cR cI lp 22 gl, cT (b 1) aN ((n : Nat) : Int) ((k : Nat) : Int) ((d : Nat) : Int) ((v : Nat) : Int), cR cI (aN 0) 6 g0, cR cI (aN 1) 6 g1, cR cI (aN 2) 72 g2, cR cI (aN 3) 12 g3, cR cI (aN 4) 6 g4, cR cI (aN 5) 6 g5, cR cI (aN 6) 6 g6, cW (b 3) wa w0, cR cI wa 12 gw, cR cI (b 4) 12 gt, cR cI (b 5) 12 gs] sz) [cX x b ik ((rr : Nat) : Int) ((hc : Nat) : Int), cP (b 0) lp ((pl : Nat) : Int), cR cI lp 22 gl, cT (b 1) aN ((n : Nat) : Int) ((k : Nat) : Int) ((d : Nat) : Int) ((v : Nat) : Int), cR cI (aN 0) 6 g0, cR cI (aN 1) 6 g1, cR cI (aN 2) 72 g2, cR cI (aN 3) 12 g3, cR cI (aN 4) 6 g4, cR cI (aN 5) 6 g5, cR cI (aN 6) 6 g6, cW (b 3) wa ow_6, cR cI wa 12 of_7, cR cI (b 4) 12 ot_8, cR cI (b 5) 12 os_9] → va_S (va_A [cX x b ik ((rr : Nat) : Int) ((hc : Nat) : Int), cP (b 0) lp ((pl : Nat) : Int), cR cI lp 22 gl, cT (b 1) aN ((n : Nat) : Int) ((k : Nat) : Int) ((d : Nat) : Int) ((v : Nat) : Int), cR cI (aN 0) 6 g0, cR cI (aN 1) 6 g1, cR cI (aN 2) 72 g2, cR cI (aN 3) 12 g3, cR cI (aN 4) 6 g4, cR cI (aN 5) 6 g5, cR cI (aN 6) 6 g6, cW (b 3) wa w0, cR cI wa 12 gw, cR cI (b 4) 12 gt, cR cI (b 5) 12 gs] sz) s.heap H locs → lv_has ls 4 [(0, .ref x), (1, .long (zL w)), (3, .int (zI ((i1 : Nat) : Int)))] → W p l e ({ frames := 7, cells := 0, slots := 0, locals := 174 }) s m args below meth c H locs 0 0 Qf (F0 m 52 ls []) := by
          intro N_52
          induction N_52 with
          | zero => intro i1 w hm_52; exact absurd hm_52 (Nat.not_lt_zero _)
          | succ N_52 ih_52 =>
            intro i1 w hm_52 hi1 hw H locs ls hP hD hS hl
            refine lv_iload_n hx hb dX3_digest_52 rfl (lv_at hl 2 rfl) ?_
            refine lv_bipush (v := zI 8) hx hb dX3_digest_53 (by decide) ?_
            refine z_icmp_gt (tgt := 75) hx hb (by omega) dX3_digest_55 (by decide) (fun c_55 => ?_) (fun c_55 => ?_)
            · refine lv_lload_n hx hb dX3_digest_75 rfl (lv_at hl 1 rfl) ?_
              rw [← hQf]
              exact z_lret K hS (ow_6, of_7, ot_8, os_9) (by rw [hw, hy, show i = pl by omega, show i1 = 9 by omega]; rfl) hP hD dX3_digest_76
            · refine lv_lload_n hx hb dX3_digest_58 rfl (lv_at hl 1 rfl) ?_
              refine lv_aload_n hx hb dX3_digest_59 rfl (lv_at hl 0 rfl) ?_
              refine lv_iload_n hx hb dX3_digest_60 rfl (lv_at hl 2 rfl) ?_
              refine zcall_i (wc := [cX x b ik ((rr : Nat) : Int) ((hc : Nat) : Int), cP (b 0) lp ((pl : Nat) : Int), cT (b 1) aN ((n : Nat) : Int) ((k : Nat) : Int) ((d : Nat) : Int) ((v : Nat) : Int), cR cI (aN 3) 12 g3]) (wr := [cR cI lp 22 gl, cR cI (aN 0) 6 g0, cR cI (aN 1) 6 g1, cR cI (aN 2) 72 g2, cR cI (aN 4) 6 g4, cR cI (aN 5) 6 g5, cR cI (aN 6) 6 g6, cW (b 3) wa ow_6, cR cI wa 12 of_7, cR cI (b 4) 12 ot_8, cR cI (b 5) 12 os_9]) (rest := [.long (zL w)]) hE hP hD hS hA [0, 1, 3, 7] [2, 4, 5, 6, 8, 9, 10, 11, 12, 13, 14] [11, 12, 0, 13, 1, 2, 3, 14, 4, 5, 6, 7, 8, 9, 10] rfl rfl (by decide) (by decide) (by decide) (fun (u : Unit) => [cX x b ik ((rr : Nat) : Int) ((hc : Nat) : Int), cP (b 0) lp ((pl : Nat) : Int), cR cI lp 22 gl, cT (b 1) aN ((n : Nat) : Int) ((k : Nat) : Int) ((d : Nat) : Int) ((v : Nat) : Int), cR cI (aN 0) 6 g0, cR cI (aN 1) 6 g1, cR cI (aN 2) 72 g2, cR cI (aN 3) 12 g3, cR cI (aN 4) 6 g4, cR cI (aN 5) 6 g5, cR cI (aN 6) 6 g6, cW (b 3) wa ow_6, cR cI wa 12 of_7, cR cI (b 4) 12 ot_8, cR cI (b 5) 12 os_9]) (fun u => rfl) (fun hPc hDc => zrunV (As := [.int (zI ((i1 : Nat) : Int))]) (rest := [.long (zL w)]) (q0 := 0) (ci := 3) K k_X3_count qm_X3_226 ⟨⟨rfl, rfl⟩, ⟨Nat.le_of_ble_eq_true rfl, Nat.le_of_ble_eq_true rfl⟩⟩ rfl rfl hPc hDc (c_X3_count l D cI x b ik rr hc aN n k d v g0 g1 g2 g3 g4 g5 g6 κ ν π ss sf st lp pl ((i1 : Nat) : Int) (by first | assumption | omega) (by first | assumption | omega) (by first | assumption | omega) (by first | assumption | omega) (by first | assumption | omega) _) rfl hl.1 rfl (Nat.le_of_ble_eq_true rfl) dX3_digest_61 ⟨Nat.zero_le _, Nat.zero_le _⟩) (by decide) (fun z u H locs hpost hP hD hS => ?_)
              obtain ⟨rfl, hzr_61⟩ := hpost
              have hzr_61 : -2147483648 ≤ (fCount n k d v π pl rr hc ((i1 : Nat) : Int)) ∧ (fCount n k d v π pl rr hc ((i1 : Nat) : Int)) < 2147483648 := hzr_61
              have hP : va_P D cls [cX x b ik ((rr : Nat) : Int) ((hc : Nat) : Int), cP (b 0) lp ((pl : Nat) : Int), cR cI lp 22 gl, cT (b 1) aN ((n : Nat) : Int) ((k : Nat) : Int) ((d : Nat) : Int) ((v : Nat) : Int), cR cI (aN 0) 6 g0, cR cI (aN 1) 6 g1, cR cI (aN 2) 72 g2, cR cI (aN 3) 12 g3, cR cI (aN 4) 6 g4, cR cI (aN 5) 6 g5, cR cI (aN 6) 6 g6, cW (b 3) wa ow_6, cR cI wa 12 of_7, cR cI (b 4) 12 ot_8, cR cI (b 5) 12 os_9] H := hP
              have hD : va_D (va_A [cX x b ik ((rr : Nat) : Int) ((hc : Nat) : Int), cP (b 0) lp ((pl : Nat) : Int), cR cI lp 22 gl, cT (b 1) aN ((n : Nat) : Int) ((k : Nat) : Int) ((d : Nat) : Int) ((v : Nat) : Int), cR cI (aN 0) 6 g0, cR cI (aN 1) 6 g1, cR cI (aN 2) 72 g2, cR cI (aN 3) 12 g3, cR cI (aN 4) 6 g4, cR cI (aN 5) 6 g5, cR cI (aN 6) 6 g6, cW (b 3) wa w0, cR cI wa 12 gw, cR cI (b 4) 12 gt, cR cI (b 5) 12 gs] sz) [cX x b ik ((rr : Nat) : Int) ((hc : Nat) : Int), cP (b 0) lp ((pl : Nat) : Int), cR cI lp 22 gl, cT (b 1) aN ((n : Nat) : Int) ((k : Nat) : Int) ((d : Nat) : Int) ((v : Nat) : Int), cR cI (aN 0) 6 g0, cR cI (aN 1) 6 g1, cR cI (aN 2) 72 g2, cR cI (aN 3) 12 g3, cR cI (aN 4) 6 g4, cR cI (aN 5) 6 g5, cR cI (aN 6) 6 g6, cW (b 3) wa ow_6, cR cI wa 12 of_7, cR cI (b 4) 12 ot_8, cR cI (b 5) 12 os_9] := hD
              refine W.eq (g2 := F0 m 64 ls [.int (zI (fCount n k d v π pl rr hc ((i1 : Nat) : Int))), .long (zL w)]) rfl ?_
              refine z_i2l hx hb (by omega) dX3_digest_64 ?_
              refine zcall_l (wc := []) (wr := [cX x b ik ((rr : Nat) : Int) ((hc : Nat) : Int), cP (b 0) lp ((pl : Nat) : Int), cR cI lp 22 gl, cT (b 1) aN ((n : Nat) : Int) ((k : Nat) : Int) ((d : Nat) : Int) ((v : Nat) : Int), cR cI (aN 0) 6 g0, cR cI (aN 1) 6 g1, cR cI (aN 2) 72 g2, cR cI (aN 3) 12 g3, cR cI (aN 4) 6 g4, cR cI (aN 5) 6 g5, cR cI (aN 6) 6 g6, cW (b 3) wa ow_6, cR cI wa 12 of_7, cR cI (b 4) 12 ot_8, cR cI (b 5) 12 os_9]) (rest := []) hE hP hD hS hA [] [0, 1, 2, 3, 4, 5, 6, 7, 8, 9, 10, 11, 12, 13, 14] [0, 1, 2, 3, 4, 5, 6, 7, 8, 9, 10, 11, 12, 13, 14] rfl rfl (by decide) (by decide) (by decide) (fun (u : Unit) => [cX x b ik ((rr : Nat) : Int) ((hc : Nat) : Int), cP (b 0) lp ((pl : Nat) : Int), cR cI lp 22 gl, cT (b 1) aN ((n : Nat) : Int) ((k : Nat) : Int) ((d : Nat) : Int) ((v : Nat) : Int), cR cI (aN 0) 6 g0, cR cI (aN 1) 6 g1, cR cI (aN 2) 72 g2, cR cI (aN 3) 12 g3, cR cI (aN 4) 6 g4, cR cI (aN 5) 6 g5, cR cI (aN 6) 6 g6, cW (b 3) wa ow_6, cR cI wa 12 of_7, cR cI (b 4) 12 ot_8, cR cI (b 5) 12 os_9]) (fun u => rfl) (fun hPc hDc => zrunS (As := [.long (zL w), .long (zL (fCount n k d v π pl rr hc ((i1 : Nat) : Int)))]) (rest := []) K k_X3_joined qm_X3_222 ⟨⟨rfl, rfl⟩, ⟨Nat.le_of_ble_eq_true rfl, Nat.le_of_ble_eq_true rfl⟩⟩ hPc hDc (c_X3_joined l D cI w (fCount n k d v π pl rr hc ((i1 : Nat) : Int)) _) rfl hl.1 rfl (Nat.le_of_ble_eq_true rfl) dX3_digest_65 ⟨Nat.zero_le _, Nat.zero_le _⟩) (by decide) (fun z u H locs hpost hP hD hS => ?_)
              subst hpost
              have hP : va_P D cls [cX x b ik ((rr : Nat) : Int) ((hc : Nat) : Int), cP (b 0) lp ((pl : Nat) : Int), cR cI lp 22 gl, cT (b 1) aN ((n : Nat) : Int) ((k : Nat) : Int) ((d : Nat) : Int) ((v : Nat) : Int), cR cI (aN 0) 6 g0, cR cI (aN 1) 6 g1, cR cI (aN 2) 72 g2, cR cI (aN 3) 12 g3, cR cI (aN 4) 6 g4, cR cI (aN 5) 6 g5, cR cI (aN 6) 6 g6, cW (b 3) wa ow_6, cR cI wa 12 of_7, cR cI (b 4) 12 ot_8, cR cI (b 5) 12 os_9] H := hP
              have hD : va_D (va_A [cX x b ik ((rr : Nat) : Int) ((hc : Nat) : Int), cP (b 0) lp ((pl : Nat) : Int), cR cI lp 22 gl, cT (b 1) aN ((n : Nat) : Int) ((k : Nat) : Int) ((d : Nat) : Int) ((v : Nat) : Int), cR cI (aN 0) 6 g0, cR cI (aN 1) 6 g1, cR cI (aN 2) 72 g2, cR cI (aN 3) 12 g3, cR cI (aN 4) 6 g4, cR cI (aN 5) 6 g5, cR cI (aN 6) 6 g6, cW (b 3) wa w0, cR cI wa 12 gw, cR cI (b 4) 12 gt, cR cI (b 5) 12 gs] sz) [cX x b ik ((rr : Nat) : Int) ((hc : Nat) : Int), cP (b 0) lp ((pl : Nat) : Int), cR cI lp 22 gl, cT (b 1) aN ((n : Nat) : Int) ((k : Nat) : Int) ((d : Nat) : Int) ((v : Nat) : Int), cR cI (aN 0) 6 g0, cR cI (aN 1) 6 g1, cR cI (aN 2) 72 g2, cR cI (aN 3) 12 g3, cR cI (aN 4) 6 g4, cR cI (aN 5) 6 g5, cR cI (aN 6) 6 g6, cW (b 3) wa ow_6, cR cI wa 12 of_7, cR cI (b 4) 12 ot_8, cR cI (b 5) 12 os_9] := hD
              refine W.eq (g2 := F0 m 68 ls [.long (zL (31 * w + (fCount n k d v π pl rr hc ((i1 : Nat) : Int))))]) rfl ?_
              refine lv_lstore_n (lv' := [(1, .long (zL (31 * w + (fCount n k d v π pl rr hc ((i1 : Nat) : Int))))), (0, .ref x), (3, .int (zI ((i1 : Nat) : Int)))]) hx hb dX3_digest_68 rfl hl (by decide) rfl (fun ls hl => ?_)
              refine z_iinc (k := 2) (lv' := [(3, .int (zI (((i1 + 1) : Nat) : Int))), (1, .long (zL (31 * w + (fCount n k d v π pl rr hc ((i1 : Nat) : Int))))), (0, .ref x)]) hx hb (((i1 + 1) : Nat) : Int) (by omega) dX3_digest_69 hl rfl (by decide) rfl (fun ls hl => ?_)
              refine lv_goto (tgt := 52) hx hb dX3_digest_72 (by decide) ?_
              exact ih_52 (i1 + 1) (31 * w + (fCount n k d v π pl rr hc ((i1 : Nat) : Int))) (by omega) (by omega) (by rw [hw]; rfl) _ _ _ hP hD hS (lv_sub hl [2, 1, 0] rfl)
        exact cut_52 (9 - 0 + 1) 0 y (Nat.lt_succ_self _) (by omega) (by rfl) _ _ _ hP hD hS (lv_sub hl [1, 2, 0] rfl)
      · refine lv_lload_n hx hb dX3_digest_29 rfl (lv_at hl 1 rfl) ?_
        refine lv_aload_n hx hb dX3_digest_30 rfl (lv_at hl 0 rfl) ?_
        refine va_get (D := D) (ci := 3) (v := .ref (b 0)) (C := RX3) (T := TX3) (N := 10) hx hb hts inT_X3 hown hE.1 hP 0 rfl rfl 0 (by decide) (hts _ qf_X3_10) (fun _ h9 => h9) rfl dX3_digest_31 ?_
        refine va_getN (D := D) (ci := 0) (v := .ref lp) (C := RX0) (T := TX0) (N := 2) hx hb hts inT_X0 hown hE.1 hP 1 rfl rfl 0 (by decide) (va_Nw.use rfl (hE.2 _ nf_X3_219 rfl)) (fun _ h9 => h9) rfl dX3_digest_34 ?_
        refine lv_iload_n hx hb dX3_digest_37 rfl (lv_at hl 2 rfl) ?_
        have hli := hlt i (by omega)
        refine z_iald hx hb hE hP 2 rfl i (by omega) (by omega) (by first | decide | omega) ((lt i : Nat) : Int) (hgl i (by omega)) dX3_digest_38 ?_
        refine z_i2l hx hb (by omega) dX3_digest_39 ?_
        refine zcall_l (wc := []) (wr := [cX x b ik ((rr : Nat) : Int) ((hc : Nat) : Int), cP (b 0) lp ((pl : Nat) : Int), cR cI lp 22 gl, cT (b 1) aN ((n : Nat) : Int) ((k : Nat) : Int) ((d : Nat) : Int) ((v : Nat) : Int), cR cI (aN 0) 6 g0, cR cI (aN 1) 6 g1, cR cI (aN 2) 72 g2, cR cI (aN 3) 12 g3, cR cI (aN 4) 6 g4, cR cI (aN 5) 6 g5, cR cI (aN 6) 6 g6, cW (b 3) wa ow_6, cR cI wa 12 of_7, cR cI (b 4) 12 ot_8, cR cI (b 5) 12 os_9]) (rest := []) hE hP hD hS hA [] [0, 1, 2, 3, 4, 5, 6, 7, 8, 9, 10, 11, 12, 13, 14] [0, 1, 2, 3, 4, 5, 6, 7, 8, 9, 10, 11, 12, 13, 14] rfl rfl (by decide) (by decide) (by decide) (fun (u : Unit) => [cX x b ik ((rr : Nat) : Int) ((hc : Nat) : Int), cP (b 0) lp ((pl : Nat) : Int), cR cI lp 22 gl, cT (b 1) aN ((n : Nat) : Int) ((k : Nat) : Int) ((d : Nat) : Int) ((v : Nat) : Int), cR cI (aN 0) 6 g0, cR cI (aN 1) 6 g1, cR cI (aN 2) 72 g2, cR cI (aN 3) 12 g3, cR cI (aN 4) 6 g4, cR cI (aN 5) 6 g5, cR cI (aN 6) 6 g6, cW (b 3) wa ow_6, cR cI wa 12 of_7, cR cI (b 4) 12 ot_8, cR cI (b 5) 12 os_9]) (fun u => rfl) (fun hPc hDc => zrunS (As := [.long (zL y), .long (zL ((lt i : Nat) : Int))]) (rest := []) K k_X3_joined qm_X3_222 ⟨⟨rfl, rfl⟩, ⟨Nat.le_of_ble_eq_true rfl, Nat.le_of_ble_eq_true rfl⟩⟩ hPc hDc (c_X3_joined l D cI y ((lt i : Nat) : Int) _) rfl hl.1 rfl (Nat.le_of_ble_eq_true rfl) dX3_digest_40 ⟨Nat.zero_le _, Nat.zero_le _⟩) (by decide) (fun z u H locs hpost hP hD hS => ?_)
        subst hpost
        have hP : va_P D cls [cX x b ik ((rr : Nat) : Int) ((hc : Nat) : Int), cP (b 0) lp ((pl : Nat) : Int), cR cI lp 22 gl, cT (b 1) aN ((n : Nat) : Int) ((k : Nat) : Int) ((d : Nat) : Int) ((v : Nat) : Int), cR cI (aN 0) 6 g0, cR cI (aN 1) 6 g1, cR cI (aN 2) 72 g2, cR cI (aN 3) 12 g3, cR cI (aN 4) 6 g4, cR cI (aN 5) 6 g5, cR cI (aN 6) 6 g6, cW (b 3) wa ow_6, cR cI wa 12 of_7, cR cI (b 4) 12 ot_8, cR cI (b 5) 12 os_9] H := hP
        have hD : va_D (va_A [cX x b ik ((rr : Nat) : Int) ((hc : Nat) : Int), cP (b 0) lp ((pl : Nat) : Int), cR cI lp 22 gl, cT (b 1) aN ((n : Nat) : Int) ((k : Nat) : Int) ((d : Nat) : Int) ((v : Nat) : Int), cR cI (aN 0) 6 g0, cR cI (aN 1) 6 g1, cR cI (aN 2) 72 g2, cR cI (aN 3) 12 g3, cR cI (aN 4) 6 g4, cR cI (aN 5) 6 g5, cR cI (aN 6) 6 g6, cW (b 3) wa w0, cR cI wa 12 gw, cR cI (b 4) 12 gt, cR cI (b 5) 12 gs] sz) [cX x b ik ((rr : Nat) : Int) ((hc : Nat) : Int), cP (b 0) lp ((pl : Nat) : Int), cR cI lp 22 gl, cT (b 1) aN ((n : Nat) : Int) ((k : Nat) : Int) ((d : Nat) : Int) ((v : Nat) : Int), cR cI (aN 0) 6 g0, cR cI (aN 1) 6 g1, cR cI (aN 2) 72 g2, cR cI (aN 3) 12 g3, cR cI (aN 4) 6 g4, cR cI (aN 5) 6 g5, cR cI (aN 6) 6 g6, cW (b 3) wa ow_6, cR cI wa 12 of_7, cR cI (b 4) 12 ot_8, cR cI (b 5) 12 os_9] := hD
        refine W.eq (g2 := F0 m 43 ls [.long (zL (31 * y + ((lt i : Nat) : Int)))]) rfl ?_
        refine lv_lstore_n (lv' := [(1, .long (zL (31 * y + ((lt i : Nat) : Int)))), (0, .ref x), (3, .int (zI ((i : Nat) : Int)))]) hx hb dX3_digest_43 rfl hl (by decide) rfl (fun ls hl => ?_)
        refine z_iinc (k := 2) (lv' := [(3, .int (zI (((i + 1) : Nat) : Int))), (1, .long (zL (31 * y + ((lt i : Nat) : Int)))), (0, .ref x)]) hx hb (((i + 1) : Nat) : Int) (by omega) dX3_digest_44 hl rfl (by decide) rfl (fun ls hl => ?_)
        refine lv_goto (tgt := 18) hx hb dX3_digest_47 (by decide) ?_
        exact ih_18 (i + 1) (31 * y + ((lt i : Nat) : Int)) (by omega) (by omega) (by rw [hy]; rfl) _ _ _ hP hD hS (lv_sub hl [2, 1, 0] rfl)
  exact cut_18 (pl - 0 + 1) 0 (fDr n k κ ν π (fDp n k κ ν π (fDs n k κ ν v ss sf st 1321))) (Nat.lt_succ_self _) (by omega) (by rfl) _ _ _ hP hD hS (lv_sub hl [2, 1, 0] rfl)
