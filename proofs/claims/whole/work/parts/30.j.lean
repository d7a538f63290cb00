set_option maxHeartbeats 4000000 in
set_option maxRecDepth 100000 in
theorem c_X4_numbersOf (l : Launch) (D : va_G) (cI : ClassId) (h : Nat) (b : Nat → Nat) (pm n k d rr hd sm : Nat) (kr kq ku s0 s1 s2 s3 s4 s5 hs : Int) (g0 g1 : Nat → Int) (κ ν : Nat → Nat) (gq : Nat → Int) (ss sf st : Nat → Nat) (j0 : Nat) (hn : 2 ≤ n ∧ n ≤ 12) (hk : k ≤ 6) (hg0 : ∀ j, j < k → g0 j = ((κ j : Nat) : Int)) (hκ : ∀ j, j < k → κ j ≤ 4) (hg1 : ∀ j, j < k → g1 j = ((ν j : Nat) : Int)) (hν : ∀ j, j < k → ν j ≤ 9) (hv : sm ≤ 6) (hq0 : ∀ j, j < sm → gq (3 * j) = ((ss j : Nat) : Int)) (hss : ∀ j, j < sm → ss j < k) (hq1 : ∀ j, j < sm → gq (3 * j + 1) = ((sf j : Nat) : Int)) (hsf : ∀ j, j < sm → sf j < n) (hq2 : ∀ j, j < sm → gq (3 * j + 2) = ((st j : Nat) : Int)) (hst : ∀ j, j < sm → st j < n) (hj0 : j0 < k) : zMi l yX4_numbersOf cX4_numbersOf 6 (some .int) ({ frames := 3, cells := 0, slots := 0, locals := 73 }) D cI [.ref h, .int (zI ((j0 : Nat) : Int))] [cM h b ((pm : Nat) : Int) ((n : Nat) : Int) ((k : Nat) : Int) ((d : Nat) : Int) ((rr : Nat) : Int) ((hd : Nat) : Int) ((sm : Nat) : Int) kr kq ku s0 s1 s2 s3 s4 s5 hs, cR cI (b 1) 6 g0, cR cI (b 2) 6 g1, cR cI (b 10) 18 gq] (fun (z : Int) (u : Unit) => z = (((btN (fun nm => agB n (κ j0) nm ss sf st j0 sm) 10) : Nat) : Int)) (fun (u : Unit) => [cM h b ((pm : Nat) : Int) ((n : Nat) : Int) ((k : Nat) : Int) ((d : Nat) : Int) ((rr : Nat) : Int) ((hd : Nat) : Int) ((sm : Nat) : Int) kr kq ku s0 s1 s2 s3 s4 s5 hs, cR cI (b 1) 6 g0, cR cI (b 2) 6 g1, cR cI (b 10) 18 gq]) := by
  intro sz
  refine zstart rfl (by decide) (Nat.le_of_ble_eq_true rfl) ?_
  intro p e s m below meth c ls K hnm hsz hP hD hS hl
  generalize hargs : ([.ref h, .int (zI ((j0 : Nat) : Int))] : List Value).toArray = args at K ⊢
  generalize hQf : MQ below _ args s _ _ _ = Qf
  have K : zK p s m args meth c cX4_numbersOf 6 RX4 (some .int) D cI := K
  obtain ⟨hx, hb, hml, hown, hts, hE, -, -⟩ := id K
  have hA := zhA (ws0 := [cM h b ((pm : Nat) : Int) ((n : Nat) : Int) ((k : Nat) : Int) ((d : Nat) : Int) ((rr : Nat) : Int) ((hd : Nat) : Int) ((sm : Nat) : Int) kr kq ku s0 s1 s2 s3 s4 s5 hs, cR cI (b 1) 6 g0, cR cI (b 2) 6 g1, cR cI (b 10) 18 gq]) hsz
  have hl : lv_has ls 6 [(0, .ref h), (1, .int (zI ((j0 : Nat) : Int)))] := hl
  have hκ0 := hκ j0 hj0
  refine lv_iconst (v := zI 0) hx hb dX4_numbersOf_0 rfl ?_
  refine lv_istore_n (lv' := [(2, .int (zI 0)), (0, .ref h), (1, .int (zI ((j0 : Nat) : Int)))]) hx hb dX4_numbersOf_1 rfl hl (by decide) rfl (fun ls hl => ?_)
  refine lv_iconst (v := zI 0) hx hb dX4_numbersOf_2 rfl ?_
  refine lv_istore_n (lv' := [(3, .int (zI 0)), (2, .int (zI 0)), (0, .ref h), (1, .int (zI ((j0 : Nat) : Int)))]) hx hb dX4_numbersOf_3 rfl hl (by decide) rfl (fun ls hl => ?_)
  have cut_4 : ∀ (N_4 : Nat), ∀ (i y : Nat), 10 - i < N_4 → (i ≤ 10) → (y = btN (fun nm => agB n (κ j0) nm ss sf st j0 sm) i) → ∀ (H : Heap) (locs : List Loc) (ls : Array Slot), va_P D cls [cM h b ((pm : Nat) : Int) ((n : Nat) : Int) ((k : Nat) : Int) ((d : Nat) : Int) ((rr : Nat) : Int) ((hd : Nat) : Int) ((sm : Nat) : Int) kr kq ku s0 s1 s2 s3 s4 s5 hs, cR cI (b 1) 6 g0, cR cI (b 2) 6 g1, cR cI (b 10) 18 gq] H → va_D (va_A [cM h b ((pm : Nat) : Int) ((n : Nat) : Int) ((k : Nat) : Int) ((d : Nat) : Int) ((rr : Nat) : Int) ((hd : Nat) : Int) ((sm : Nat) : Int) kr kq ku s0 s1 s2 s3 s4 s5 hs, cR cI (b 1) 6 g0, cR cI (b 2) 6 g1, cR cI (b 10) 18 gq] sz) [cM h b ((pm : Nat) : Int) ((n : Nat) : Int) ((k : Nat) : Int) ((d : Nat) : Int) ((rr : Nat) : Int) ((hd : Nat) : Int) ((sm : Nat) : Int) kr kq ku s0 s1 s2 s3 s4 s5 hs, cR cI (b 1) 6 g0, cR cI (b 2) 6 g1, cR cI (b 10) 18 gq] → va_S (va_A [cM h b ((pm : Nat) : Int) ((n : Nat) : Int) ((k : Nat) : Int) ((d : Nat) : Int) ((rr : Nat) : Int) ((hd : Nat) : Int) ((sm : Nat) : Int) kr kq ku s0 s1 s2 s3 s4 s5 hs, cR cI (b 1) 6 g0, cR cI (b 2) 6 g1, cR cI (b 10) 18 gq] sz) s.heap H locs → lv_has ls 6 [(0, .ref h), (1, .int (zI ((j0 : Nat) : Int))), (2, .int (zI ((y : Nat) : Int))), (3, .int (zI ((i : Nat) : Int)))] → W p l e ({ frames := 3, cells := 0, slots := 0, locals := 73 }) s m args below meth c H locs 0 0 Qf (F0 m 4 ls []) := by
    intro N_4
    induction N_4 with
    | zero => intro i y hm_4; exact absurd hm_4 (Nat.not_lt_zero _)
    | succ N_4 ih_4 =>
      intro i y hm_4 hi hy H locs ls hP hD hS hl
      refine lv_iload_n hx hb dX4_numbersOf_4 rfl (lv_at hl 3 rfl) ?_
      refine lv_bipush (v := zI 10) hx hb dX4_numbersOf_5 (by decide) ?_
      refine z_icmp_ge (tgt := 109) hx hb (by omega) dX4_numbersOf_7 (by decide) (fun c_7 => ?_) (fun c_7 => ?_)
      · refine lv_iload_n hx hb dX4_numbersOf_109 rfl (lv_at hl 2 rfl) ?_
        rw [← hQf]
        exact z_iret K hS () (by rw [hy, show i = 10 by omega]) hP hD dX4_numbersOf_110
      · refine lv_iconst (v := zI 1) hx hb dX4_numbersOf_10 rfl ?_
        refine lv_istore (lv' := [(4, .int (zI 1)), (0, .ref h), (1, .int (zI ((j0 : Nat) : Int))), (2, .int (zI ((y : Nat) : Int))), (3, .int (zI ((i : Nat) : Int)))]) hx hb dX4_numbersOf_11 hl (by decide) rfl (fun ls hl => ?_)
        refine lv_iconst (v := zI 0) hx hb dX4_numbersOf_13 rfl ?_
        refine lv_istore (lv' := [(5, .int (zI 0)), (4, .int (zI 1)), (0, .ref h), (1, .int (zI ((j0 : Nat) : Int))), (2, .int (zI ((y : Nat) : Int))), (3, .int (zI ((i : Nat) : Int)))]) hx hb dX4_numbersOf_14 hl (by decide) rfl (fun ls hl => ?_)
        have cut_16 : ∀ (N_16 : Nat), ∀ (i1 : Nat) (y4 : Int), sm - i1 < N_16 → (i1 ≤ sm) → (y4 = b01 (agB n (κ j0) i ss sf st j0 i1 = true)) → ∀ (H : Heap) (locs : List Loc) (ls : Array Slot), va_P D cls [cM h b ((pm : Nat) : Int) ((n : Nat) : Int) ((k : Nat) : Int) ((d : Nat) : Int) ((rr : Nat) : Int) ((hd : Nat) : Int) ((sm : Nat) : Int) kr kq ku s0 s1 s2 s3 s4 s5 hs, cR cI (b 1) 6 g0, cR cI (b 2) 6 g1, cR cI (b 10) 18 gq] H → va_D (va_A [cM h b ((pm : Nat) : Int) ((n : Nat) : Int) ((k : Nat) : Int) ((d : Nat) : Int) ((rr : Nat) : Int) ((hd : Nat) : Int) ((sm : Nat) : Int) kr kq ku s0 s1 s2 s3 s4 s5 hs, cR cI (b 1) 6 g0, cR cI (b 2) 6 g1, cR cI (b 10) 18 gq] sz) [cM h b ((pm : Nat) : Int) ((n : Nat) : Int) ((k : Nat) : Int) ((d : Nat) : Int) ((rr : Nat) : Int) ((hd : Nat) : Int) ((sm : Nat) : Int) kr kq ku s0 s1 s2 s3 s4 s5 hs, cR cI (b 1) 6 g0, cR cI (b 2) 6 g1, cR cI (b 10) 18 gq] → va_S (va_A [cM h b ((pm : Nat) : Int) ((n : Nat) : Int) ((k : Nat) : Int) ((d : Nat) : Int) ((rr : Nat) : Int) ((hd : Nat) : Int) ((sm : Nat) : Int) kr kq ku s0 s1 s2 s3 s4 s5 hs, cR cI (b 1) 6 g0, cR cI (b 2) 6 g1, cR cI (b 10) 18 gq] sz) s.heap H locs → lv_has ls 6 [(0, .ref h), (1, .int (zI ((j0 : Nat) : Int))), (2, .int (zI ((y : Nat) : Int))), (3, .int (zI ((i : Nat) : Int))), (4, .int (zI y4)), (5, .int (zI (((3 * i1) : Nat) : Int)))] → W p l e ({ frames := 3, cells := 0, slots := 0, locals := 73 }) s m args below meth c H locs 0 0 Qf (F0 m 16 ls []) := by
          intro N_16
          induction N_16 with
          | zero => intro i1 y4 hm_16; exact absurd hm_16 (Nat.not_lt_zero _)
          | succ N_16 ih_16 =>
            intro i1 y4 hm_16 hi1 hy4 H locs ls hP hD hS hl
            refine lv_iload hx hb dX4_numbersOf_16 (lv_at hl 5 rfl) ?_
            refine lv_iconst (v := zI 3) hx hb dX4_numbersOf_18 rfl ?_
            refine lv_aload_n hx hb dX4_numbersOf_19 rfl (lv_at hl 0 rfl) ?_
            refine va_get (D := D) (ci := 4) (v := .int (zI ((sm : Nat) : Int))) (C := RX4) (T := TX4) (N := 32) hx hb hts inT_X4 hown hE.1 hP 0 rfl rfl 21 (by decide) (hts _ qf_X4_98) (fun _ h9 => h9) rfl dX4_numbersOf_20 ?_
            refine z_imul hx hb (((3 * sm) : Nat) : Int) (by first | omega | exact (Int.natCast_mul _ _).symm) dX4_numbersOf_23 ?_
            refine z_icmp_ge (tgt := 88) hx hb (by omega) dX4_numbersOf_24 (by decide) (fun c_24 => ?_) (fun c_24 => ?_)
            · have hsm : i1 = sm := by omega
              refine lv_iload_n hx hb dX4_numbersOf_88 rfl (lv_at hl 2 rfl) ?_
              refine lv_iload hx hb dX4_numbersOf_89 (lv_at hl 4 rfl) ?_
              refine z_if_eq (tgt := 100) hx hb (by have := b01_r (agB n (κ j0) i ss sf st j0 i1 = true); omega) dX4_numbersOf_91 (by decide) (fun c_91 => ?_) (fun c_91 => ?_)
              · have hbt : btN (fun nm => agB n (κ j0) nm ss sf st j0 sm) (i + 1) = y := by rw [btN_f (by have h9 := b01_eq (hy4.symm.trans c_91); rw [hsm] at h9; simpa using h9), ← hy]
                refine lv_iconst (v := zI 0) hx hb dX4_numbersOf_100 rfl ?_
                refine z_ior hx hb (((btN (fun nm => agB n (κ j0) nm ss sf st j0 sm) (i + 1)) : Nat) : Int) (by rw [hbt]; first | exact z_or0 _ | exact z_orb (by rw [hy]; exact btN_lt _ _)) dX4_numbersOf_101 ?_
                refine lv_istore_n (lv' := [(2, .int (zI (((btN (fun nm => agB n (κ j0) nm ss sf st j0 sm) (i + 1)) : Nat) : Int))), (0, .ref h), (1, .int (zI ((j0 : Nat) : Int))), (3, .int (zI ((i : Nat) : Int))), (4, .int (zI y4)), (5, .int (zI (((3 * i1) : Nat) : Int)))]) hx hb dX4_numbersOf_102 rfl hl (by decide) rfl (fun ls hl => ?_)
                refine z_iinc (k := 3) (lv' := [(3, .int (zI (((i + 1) : Nat) : Int))), (2, .int (zI (((btN (fun nm => agB n (κ j0) nm ss sf st j0 sm) (i + 1)) : Nat) : Int))), (0, .ref h), (1, .int (zI ((j0 : Nat) : Int))), (4, .int (zI y4)), (5, .int (zI (((3 * i1) : Nat) : Int)))]) hx hb (((i + 1) : Nat) : Int) (by omega) dX4_numbersOf_103 hl rfl (by decide) rfl (fun ls hl => ?_)
                refine lv_goto (tgt := 4) hx hb dX4_numbersOf_106 (by decide) ?_
                exact ih_4 (i + 1) (btN (fun nm => agB n (κ j0) nm ss sf st j0 sm) (i + 1)) (by omega) (by omega) (by rfl) _ _ _ hP hD hS (lv_sub hl [2, 3, 1, 0] rfl)
              · have hbt : btN (fun nm => agB n (κ j0) nm ss sf st j0 sm) (i + 1) = y + 2 ^ i := by rw [btN_t (by have h9 := b01_ne (fun h9 => c_91 (hy4.trans h9)); rw [hsm] at h9; exact h9), ← hy]
                refine lv_iconst (v := zI 1) hx hb dX4_numbersOf_94 rfl ?_
                refine lv_iload_n hx hb dX4_numbersOf_95 rfl (lv_at hl 3 rfl) ?_
                refine z_ishl hx hb ((2 ^ i : Nat) : Int) (by exact z_shl1 i (by omega)) dX4_numbersOf_96 ?_
                refine lv_goto (tgt := 101) hx hb dX4_numbersOf_97 (by decide) ?_
                refine z_ior hx hb (((btN (fun nm => agB n (κ j0) nm ss sf st j0 sm) (i + 1)) : Nat) : Int) (by rw [hbt]; first | exact z_or0 _ | exact z_orb (by rw [hy]; exact btN_lt _ _)) dX4_numbersOf_101 ?_
                refine lv_istore_n (lv' := [(2, .int (zI (((btN (fun nm => agB n (κ j0) nm ss sf st j0 sm) (i + 1)) : Nat) : Int))), (0, .ref h), (1, .int (zI ((j0 : Nat) : Int))), (3, .int (zI ((i : Nat) : Int))), (4, .int (zI y4)), (5, .int (zI (((3 * i1) : Nat) : Int)))]) hx hb dX4_numbersOf_102 rfl hl (by decide) rfl (fun ls hl => ?_)
                refine z_iinc (k := 3) (lv' := [(3, .int (zI (((i + 1) : Nat) : Int))), (2, .int (zI (((btN (fun nm => agB n (κ j0) nm ss sf st j0 sm) (i + 1)) : Nat) : Int))), (0, .ref h), (1, .int (zI ((j0 : Nat) : Int))), (4, .int (zI y4)), (5, .int (zI (((3 * i1) : Nat) : Int)))]) hx hb (((i + 1) : Nat) : Int) (by omega) dX4_numbersOf_103 hl rfl (by decide) rfl (fun ls hl => ?_)
                refine lv_goto (tgt := 4) hx hb dX4_numbersOf_106 (by decide) ?_
                exact ih_4 (i + 1) (btN (fun nm => agB n (κ j0) nm ss sf st j0 sm) (i + 1)) (by omega) (by omega) (by rfl) _ _ _ hP hD hS (lv_sub hl [2, 3, 1, 0] rfl)
            · refine lv_iload hx hb dX4_numbersOf_27 (lv_at hl 4 rfl) ?_
              refine z_if_eq (tgt := 79) hx hb (by have := b01_r (agB n (κ j0) i ss sf st j0 i1 = true); omega) dX4_numbersOf_29 (by decide) (fun c_29 => ?_) (fun c_29 => ?_)
              · have hag2 : agB n (κ j0) i ss sf st j0 (i1 + 1) = false := agB_ff (by have h9 := b01_eq (hy4.symm.trans c_29); simpa using h9)
                refine lv_iconst (v := zI 0) hx hb dX4_numbersOf_79 rfl ?_
                refine lv_istore (lv' := [(4, .int (zI 0)), (0, .ref h), (1, .int (zI ((j0 : Nat) : Int))), (2, .int (zI ((y : Nat) : Int))), (3, .int (zI ((i : Nat) : Int))), (5, .int (zI (((3 * i1) : Nat) : Int)))]) hx hb dX4_numbersOf_80 hl (by decide) rfl (fun ls hl => ?_)
                refine z_iinc (k := 5) (lv' := [(5, .int (zI ((3 * (i1 + 1) : Nat) : Int))), (4, .int (zI 0)), (0, .ref h), (1, .int (zI ((j0 : Nat) : Int))), (2, .int (zI ((y : Nat) : Int))), (3, .int (zI ((i : Nat) : Int)))]) hx hb ((3 * (i1 + 1) : Nat) : Int) (by omega) dX4_numbersOf_82 hl rfl (by decide) rfl (fun ls hl => ?_)
                refine lv_goto (tgt := 16) hx hb dX4_numbersOf_85 (by decide) ?_
                exact ih_16 (i1 + 1) 0 (by omega) (by omega) (by first | exact (b01_t hag1).symm | exact (b01_f (by rw [hag2]; decide)).symm) _ _ _ hP hD hS (lv_sub hl [2, 3, 4, 5, 1, 0] rfl)
              · have hag0 : agB n (κ j0) i ss sf st j0 i1 = true := b01_ne (fun h9 => c_29 (hy4.trans h9))
                refine lv_aload_n hx hb dX4_numbersOf_32 rfl (lv_at hl 0 rfl) ?_
                refine va_get (D := D) (ci := 4) (v := .ref (b 10)) (C := RX4) (T := TX4) (N := 32) hx hb hts inT_X4 hown hE.1 hP 0 rfl rfl 22 (by decide) (hts _ qf_X4_40) (fun _ h9 => h9) rfl dX4_numbersOf_33 ?_
                refine lv_iload hx hb dX4_numbersOf_36 (lv_at hl 5 rfl) ?_
                have h1 := hss i1 (by omega)
                have h2 := hsf i1 (by omega)
                have h3 := hst i1 (by omega)
                refine z_iald hx hb hE hP 3 rfl (3 * i1) (by omega) (by omega) (by first | decide | omega) ((ss i1 : Nat) : Int) (hq0 i1 (by omega)) dX4_numbersOf_38 ?_
                refine lv_iload_n hx hb dX4_numbersOf_39 rfl (lv_at hl 1 rfl) ?_
                refine z_icmp_ne (tgt := 75) hx hb (by omega) dX4_numbersOf_40 (by decide) (fun c_40 => ?_) (fun c_40 => ?_)
                · have hag1 : agB n (κ j0) i ss sf st j0 (i1 + 1) = true := agB_t hag0 (Or.inl (by omega))
                  refine lv_iconst (v := zI 1) hx hb dX4_numbersOf_75 rfl ?_
                  refine lv_goto (tgt := 80) hx hb dX4_numbersOf_76 (by decide) ?_
                  refine lv_istore (lv' := [(4, .int (zI 1)), (0, .ref h), (1, .int (zI ((j0 : Nat) : Int))), (2, .int (zI ((y : Nat) : Int))), (3, .int (zI ((i : Nat) : Int))), (5, .int (zI (((3 * i1) : Nat) : Int)))]) hx hb dX4_numbersOf_80 hl (by decide) rfl (fun ls hl => ?_)
                  refine z_iinc (k := 5) (lv' := [(5, .int (zI ((3 * (i1 + 1) : Nat) : Int))), (4, .int (zI 1)), (0, .ref h), (1, .int (zI ((j0 : Nat) : Int))), (2, .int (zI ((y : Nat) : Int))), (3, .int (zI ((i : Nat) : Int)))]) hx hb ((3 * (i1 + 1) : Nat) : Int) (by omega) dX4_numbersOf_82 hl rfl (by decide) rfl (fun ls hl => ?_)
                  refine lv_goto (tgt := 16) hx hb dX4_numbersOf_85 (by decide) ?_
                  exact ih_16 (i1 + 1) 1 (by omega) (by omega) (by first | exact (b01_t hag1).symm | exact (b01_f (by rw [hag2]; decide)).symm) _ _ _ hP hD hS (lv_sub hl [2, 3, 4, 5, 1, 0] rfl)
                · refine lv_aload_n hx hb dX4_numbersOf_43 rfl (lv_at hl 0 rfl) ?_
                  refine lv_aload_n hx hb dX4_numbersOf_44 rfl (lv_at hl 0 rfl) ?_
                  refine va_get (D := D) (ci := 4) (v := .ref (b 1)) (C := RX4) (T := TX4) (N := 32) hx hb hts inT_X4 hown hE.1 hP 0 rfl rfl 6 (by decide) (hts _ qf_X4_13) (fun _ h9 => h9) rfl dX4_numbersOf_45 ?_
                  refine lv_iload_n hx hb dX4_numbersOf_48 rfl (lv_at hl 1 rfl) ?_
                  refine z_iald hx hb hE hP 1 rfl j0 (by omega) (by omega) (by first | decide | omega) ((κ j0 : Nat) : Int) (hg0 j0 hj0) dX4_numbersOf_49 ?_
                  refine lv_iload_n hx hb dX4_numbersOf_50 rfl (lv_at hl 3 rfl) ?_
                  refine lv_aload_n hx hb dX4_numbersOf_51 rfl (lv_at hl 0 rfl) ?_
                  refine va_get (D := D) (ci := 4) (v := .ref (b 10)) (C := RX4) (T := TX4) (N := 32) hx hb hts inT_X4 hown hE.1 hP 0 rfl rfl 22 (by decide) (hts _ qf_X4_40) (fun _ h9 => h9) rfl dX4_numbersOf_52 ?_
                  refine lv_iload hx hb dX4_numbersOf_55 (lv_at hl 5 rfl) ?_
                  refine lv_iconst (v := zI 1) hx hb dX4_numbersOf_57 rfl ?_
                  refine z_iadd hx hb ((((3 * i1) + 1) : Nat) : Int) (by omega) dX4_numbersOf_58 ?_
                  refine z_iald hx hb hE hP 3 rfl ((3 * i1) + 1) (by omega) (by omega) (by first | decide | omega) ((sf i1 : Nat) : Int) (hq1 i1 (by omega)) dX4_numbersOf_59 ?_
                  refine zcall_i (wc := [cM h b ((pm : Nat) : Int) ((n : Nat) : Int) ((k : Nat) : Int) ((d : Nat) : Int) ((rr : Nat) : Int) ((hd : Nat) : Int) ((sm : Nat) : Int) kr kq ku s0 s1 s2 s3 s4 s5 hs]) (wr := [cR cI (b 1) 6 g0, cR cI (b 2) 6 g1, cR cI (b 10) 18 gq]) (rest := []) hE hP hD hS hA [0] [1, 2, 3] [3, 0, 1, 2] rfl rfl (by decide) (by decide) (by decide) (fun (u : Unit) => [cM h b ((pm : Nat) : Int) ((n : Nat) : Int) ((k : Nat) : Int) ((d : Nat) : Int) ((rr : Nat) : Int) ((hd : Nat) : Int) ((sm : Nat) : Int) kr kq ku s0 s1 s2 s3 s4 s5 hs, cR cI (b 1) 6 g0, cR cI (b 2) 6 g1, cR cI (b 10) 18 gq]) (fun u => rfl) (fun hPc hDc => zrunV (As := [.int (zI ((κ j0 : Nat) : Int)), .int (zI ((i : Nat) : Int)), .int (zI ((sf i1 : Nat) : Int))]) (rest := []) (q0 := 0) (ci := 4) K k_X4_goesBy qm_X4_118 ⟨⟨rfl, rfl⟩, ⟨Nat.le_of_ble_eq_true rfl, Nat.le_of_ble_eq_true rfl⟩⟩ rfl rfl hPc hDc (c_X4_goesBy l D cI h b pm n k d rr hd sm kr kq ku s0 s1 s2 s3 s4 s5 hs (κ j0) i (sf i1) (by first | assumption | omega) (by first | assumption | omega) (by first | assumption | omega) (by first | assumption | omega) _) rfl hl.1 rfl (Nat.le_of_ble_eq_true rfl) dX4_numbersOf_60 ⟨Nat.zero_le _, Nat.zero_le _⟩) (by decide) (fun z u H locs hpost hP hD hS => ?_)
                  subst hpost
                  have hP : va_P D cls [cM h b ((pm : Nat) : Int) ((n : Nat) : Int) ((k : Nat) : Int) ((d : Nat) : Int) ((rr : Nat) : Int) ((hd : Nat) : Int) ((sm : Nat) : Int) kr kq ku s0 s1 s2 s3 s4 s5 hs, cR cI (b 1) 6 g0, cR cI (b 2) 6 g1, cR cI (b 10) 18 gq] H := hP
                  have hD : va_D (va_A [cM h b ((pm : Nat) : Int) ((n : Nat) : Int) ((k : Nat) : Int) ((d : Nat) : Int) ((rr : Nat) : Int) ((hd : Nat) : Int) ((sm : Nat) : Int) kr kq ku s0 s1 s2 s3 s4 s5 hs, cR cI (b 1) 6 g0, cR cI (b 2) 6 g1, cR cI (b 10) 18 gq] sz) [cM h b ((pm : Nat) : Int) ((n : Nat) : Int) ((k : Nat) : Int) ((d : Nat) : Int) ((rr : Nat) : Int) ((hd : Nat) : Int) ((sm : Nat) : Int) kr kq ku s0 s1 s2 s3 s4 s5 hs, cR cI (b 1) 6 g0, cR cI (b 2) 6 g1, cR cI (b 10) 18 gq] := hD
                  refine W.eq (g2 := F0 m 63 ls [.int (zI (((mv n (κ j0) i (sf i1)) : Nat) : Int))]) rfl ?_
                  refine lv_aload_n hx hb dX4_numbersOf_63 rfl (lv_at hl 0 rfl) ?_
                  refine va_get (D := D) (ci := 4) (v := .ref (b 10)) (C := RX4) (T := TX4) (N := 32) hx hb hts inT_X4 hown hE.1 hP 0 rfl rfl 22 (by decide) (hts _ qf_X4_40) (fun _ h9 => h9) rfl dX4_numbersOf_64 ?_
                  refine lv_iload hx hb dX4_numbersOf_67 (lv_at hl 5 rfl) ?_
                  refine lv_iconst (v := zI 2) hx hb dX4_numbersOf_69 rfl ?_
                  refine z_iadd hx hb ((((3 * i1) + 2) : Nat) : Int) (by omega) dX4_numbersOf_70 ?_
                  have h5 := mv_lt (n := n) (kd := κ j0) (nm := i) (p := sf i1) hn.2 hκ0 (by omega) h2
                  refine z_iald hx hb hE hP 3 rfl ((3 * i1) + 2) (by omega) (by omega) (by first | decide | omega) ((st i1 : Nat) : Int) (hq2 i1 (by omega)) dX4_numbersOf_71 ?_
                  refine z_icmp_ne (tgt := 79) hx hb (by omega) dX4_numbersOf_72 (by decide) (fun c_72 => ?_) (fun c_72 => ?_)
                  · have hag2 : agB n (κ j0) i ss sf st j0 (i1 + 1) = false := agB_f (i := i1) (by omega) (by omega) (i1 + 1) (by omega)
                    refine lv_iconst (v := zI 0) hx hb dX4_numbersOf_79 rfl ?_
                    refine lv_istore (lv' := [(4, .int (zI 0)), (0, .ref h), (1, .int (zI ((j0 : Nat) : Int))), (2, .int (zI ((y : Nat) : Int))), (3, .int (zI ((i : Nat) : Int))), (5, .int (zI (((3 * i1) : Nat) : Int)))]) hx hb dX4_numbersOf_80 hl (by decide) rfl (fun ls hl => ?_)
                    refine z_iinc (k := 5) (lv' := [(5, .int (zI ((3 * (i1 + 1) : Nat) : Int))), (4, .int (zI 0)), (0, .ref h), (1, .int (zI ((j0 : Nat) : Int))), (2, .int (zI ((y : Nat) : Int))), (3, .int (zI ((i : Nat) : Int)))]) hx hb ((3 * (i1 + 1) : Nat) : Int) (by omega) dX4_numbersOf_82 hl rfl (by decide) rfl (fun ls hl => ?_)
                    refine lv_goto (tgt := 16) hx hb dX4_numbersOf_85 (by decide) ?_
                    exact ih_16 (i1 + 1) 0 (by omega) (by omega) (by first | exact (b01_t hag1).symm | exact (b01_f (by rw [hag2]; decide)).symm) _ _ _ hP hD hS (lv_sub hl [2, 3, 4, 5, 1, 0] rfl)
                  · have hag1 : agB n (κ j0) i ss sf st j0 (i1 + 1) = true := agB_t hag0 (Or.inr (by omega))
                    refine lv_iconst (v := zI 1) hx hb dX4_numbersOf_75 rfl ?_
                    refine lv_goto (tgt := 80) hx hb dX4_numbersOf_76 (by decide) ?_
                    refine lv_istore (lv' := [(4, .int (zI 1)), (0, .ref h), (1, .int (zI ((j0 : Nat) : Int))), (2, .int (zI ((y : Nat) : Int))), (3, .int (zI ((i : Nat) : Int))), (5, .int (zI (((3 * i1) : Nat) : Int)))]) hx hb dX4_numbersOf_80 hl (by decide) rfl (fun ls hl => ?_)
                    refine z_iinc (k := 5) (lv' := [(5, .int (zI ((3 * (i1 + 1) : Nat) : Int))), (4, .int (zI 1)), (0, .ref h), (1, .int (zI ((j0 : Nat) : Int))), (2, .int (zI ((y : Nat) : Int))), (3, .int (zI ((i : Nat) : Int)))]) hx hb ((3 * (i1 + 1) : Nat) : Int) (by omega) dX4_numbersOf_82 hl rfl (by decide) rfl (fun ls hl => ?_)
                    refine lv_goto (tgt := 16) hx hb dX4_numbersOf_85 (by decide) ?_
                    exact ih_16 (i1 + 1) 1 (by omega) (by omega) (by first | exact (b01_t hag1).symm | exact (b01_f (by rw [hag2]; decide)).symm) _ _ _ hP hD hS (lv_sub hl [2, 3, 4, 5, 1, 0] rfl)
        exact cut_16 (sm - 0 + 1) 0 1 (Nat.lt_succ_self _) (by omega) (by exact (b01_t rfl).symm) _ _ _ hP hD hS (lv_sub hl [2, 3, 4, 5, 1, 0] rfl)
  exact cut_4 (10 - 0 + 1) 0 0 (Nat.lt_succ_self _) (by omega) (by rfl) _ _ _ hP hD hS (lv_sub hl [2, 3, 1, 0] rfl)
set_option maxHeartbeats 4000000 in
set_option maxRecDepth 100000 in
theorem c_X4_watchOf (l : Launch) (D : va_G) (cI : ClassId) (h : Nat) (b : Nat → Nat) (pm n k d rr hd sm : Nat) (kr kq ku s0 s1 s2 s3 s4 s5 hs : Int) (g0 g1 : Nat → Int) (κ ν : Nat → Nat) (gq : Nat → Int) (ss sf st : Nat → Nat) (j0 : Nat) (hn : 2 ≤ n ∧ n ≤ 12) (hk : k ≤ 6) (hg0 : ∀ j, j < k → g0 j = ((κ j : Nat) : Int)) (hκ : ∀ j, j < k → κ j ≤ 4) (hg1 : ∀ j, j < k → g1 j = ((ν j : Nat) : Int)) (hν : ∀ j, j < k → ν j ≤ 9) (hv : sm ≤ 6) (hq0 : ∀ j, j < sm → gq (3 * j) = ((ss j : Nat) : Int)) (hss : ∀ j, j < sm → ss j < k) (hq1 : ∀ j, j < sm → gq (3 * j + 1) = ((sf j : Nat) : Int)) (hsf : ∀ j, j < sm → sf j < n) (hq2 : ∀ j, j < sm → gq (3 * j + 2) = ((st j : Nat) : Int)) (hst : ∀ j, j < sm → st j < n) (hj0 : j0 < k) : zMi l yX4_watchOf cX4_watchOf 10 (some .int) ({ frames := 4, cells := 0, slots := 0, locals := 98 }) D cI [.ref h, .int (zI ((j0 : Nat) : Int))] [cM h b ((pm : Nat) : Int) ((n : Nat) : Int) ((k : Nat) : Int) ((d : Nat) : Int) ((rr : Nat) : Int) ((hd : Nat) : Int) ((sm : Nat) : Int) kr kq ku s0 s1 s2 s3 s4 s5 hs, cR cI (b 1) 6 g0, cR cI (b 2) 6 g1, cR cI (b 10) 18 gq] (fun (z : Int) (u : Unit) => z = (if btN (fun nm => agB n (κ j0) nm ss sf st j0 sm) 10 = 0 then (-1 : Int) else ((wbN (lw n (κ j0) (fun nm => agB n (κ j0) nm ss sf st j0 sm)) n : Nat) : Int))) (fun (u : Unit) => [cM h b ((pm : Nat) : Int) ((n : Nat) : Int) ((k : Nat) : Int) ((d : Nat) : Int) ((rr : Nat) : Int) ((hd : Nat) : Int) ((sm : Nat) : Int) kr kq ku s0 s1 s2 s3 s4 s5 hs, cR cI (b 1) 6 g0, cR cI (b 2) 6 g1, cR cI (b 10) 18 gq]) := by
  intro sz
  refine zstart rfl (by decide) (Nat.le_of_ble_eq_true rfl) ?_
  intro p e s m below meth c ls K hnm hsz hP hD hS hl
  generalize hargs : ([.ref h, .int (zI ((j0 : Nat) : Int))] : List Value).toArray = args at K ⊢
  generalize hQf : MQ below _ args s _ _ _ = Qf
  have K : zK p s m args meth c cX4_watchOf 10 RX4 (some .int) D cI := K
  obtain ⟨hx, hb, hml, hown, hts, hE, -, -⟩ := id K
  have hA := zhA (ws0 := [cM h b ((pm : Nat) : Int) ((n : Nat) : Int) ((k : Nat) : Int) ((d : Nat) : Int) ((rr : Nat) : Int) ((hd : Nat) : Int) ((sm : Nat) : Int) kr kq ku s0 s1 s2 s3 s4 s5 hs, cR cI (b 1) 6 g0, cR cI (b 2) 6 g1, cR cI (b 10) 18 gq]) hsz
  have hl : lv_has ls 10 [(0, .ref h), (1, .int (zI ((j0 : Nat) : Int)))] := hl
  have hκ0 := hκ j0 hj0
  have hB := btN_10 (fun nm => agB n (κ j0) nm ss sf st j0 sm) (Nat.le_refl 10)
  refine lv_aload_n hx hb dX4_watchOf_0 rfl (lv_at hl 0 rfl) ?_
  refine lv_iload_n hx hb dX4_watchOf_1 rfl (lv_at hl 1 rfl) ?_
  refine zcall_i (wc := [cM h b ((pm : Nat) : Int) ((n : Nat) : Int) ((k : Nat) : Int) ((d : Nat) : Int) ((rr : Nat) : Int) ((hd : Nat) : Int) ((sm : Nat) : Int) kr kq ku s0 s1 s2 s3 s4 s5 hs, cR cI (b 1) 6 g0, cR cI (b 2) 6 g1, cR cI (b 10) 18 gq]) (wr := []) (rest := []) hE hP hD hS hA [0, 1, 2, 3] [] [0, 1, 2, 3] rfl rfl (by decide) (by decide) (by decide) (fun (u : Unit) => [cM h b ((pm : Nat) : Int) ((n : Nat) : Int) ((k : Nat) : Int) ((d : Nat) : Int) ((rr : Nat) : Int) ((hd : Nat) : Int) ((sm : Nat) : Int) kr kq ku s0 s1 s2 s3 s4 s5 hs, cR cI (b 1) 6 g0, cR cI (b 2) 6 g1, cR cI (b 10) 18 gq]) (fun u => rfl) (fun hPc hDc => zrunV (As := [.int (zI ((j0 : Nat) : Int))]) (rest := []) (q0 := 0) (ci := 4) K k_X4_numbersOf qm_X4_175 ⟨⟨rfl, rfl⟩, ⟨Nat.le_of_ble_eq_true rfl, Nat.le_of_ble_eq_true rfl⟩⟩ rfl rfl hPc hDc (c_X4_numbersOf l D cI h b pm n k d rr hd sm kr kq ku s0 s1 s2 s3 s4 s5 hs g0 g1 κ ν gq ss sf st j0 (by first | assumption | omega) (by first | assumption | omega) (by first | assumption | omega) (by first | assumption | omega) (by first | assumption | omega) (by first | assumption | omega) (by first | assumption | omega) (by first | assumption | omega) (by first | assumption | omega) (by first | assumption | omega) (by first | assumption | omega) (by first | assumption | omega) (by first | assumption | omega) (by first | assumption | omega) _) rfl hl.1 rfl (Nat.le_of_ble_eq_true rfl) dX4_watchOf_2 ⟨Nat.zero_le _, Nat.zero_le _⟩) (by decide) (fun z u H locs hpost hP hD hS => ?_)
  subst hpost
  have hP : va_P D cls [cM h b ((pm : Nat) : Int) ((n : Nat) : Int) ((k : Nat) : Int) ((d : Nat) : Int) ((rr : Nat) : Int) ((hd : Nat) : Int) ((sm : Nat) : Int) kr kq ku s0 s1 s2 s3 s4 s5 hs, cR cI (b 1) 6 g0, cR cI (b 2) 6 g1, cR cI (b 10) 18 gq] H := hP
  have hD : va_D (va_A [cM h b ((pm : Nat) : Int) ((n : Nat) : Int) ((k : Nat) : Int) ((d : Nat) : Int) ((rr : Nat) : Int) ((hd : Nat) : Int) ((sm : Nat) : Int) kr kq ku s0 s1 s2 s3 s4 s5 hs, cR cI (b 1) 6 g0, cR cI (b 2) 6 g1, cR cI (b 10) 18 gq] sz) [cM h b ((pm : Nat) : Int) ((n : Nat) : Int) ((k : Nat) : Int) ((d : Nat) : Int) ((rr : Nat) : Int) ((hd : Nat) : Int) ((sm : Nat) : Int) kr kq ku s0 s1 s2 s3 s4 s5 hs, cR cI (b 1) 6 g0, cR cI (b 2) 6 g1, cR cI (b 10) 18 gq] := hD
  refine W.eq (g2 := F0 m 5 ls [.int (zI (((btN (fun nm => agB n (κ j0) nm ss sf st j0 sm) 10) : Nat) : Int))]) rfl ?_
  refine lv_istore_n (lv' := [(2, .int (zI (((btN (fun nm => agB n (κ j0) nm ss sf st j0 sm) 10) : Nat) : Int))), (0, .ref h), (1, .int (zI ((j0 : Nat) : Int)))]) hx hb dX4_watchOf_5 rfl hl (by decide) rfl (fun ls hl => ?_)
  refine lv_iconst (v := zI (-1)) hx hb dX4_watchOf_6 rfl ?_
  refine lv_istore_n (lv' := [(3, .int (zI (-1))), (2, .int (zI (((btN (fun nm => agB n (κ j0) nm ss sf st j0 sm) 10) : Nat) : Int))), (0, .ref h), (1, .int (zI ((j0 : Nat) : Int)))]) hx hb dX4_watchOf_7 rfl hl (by decide) rfl (fun ls hl => ?_)
  refine lv_bipush (v := zI 11) hx hb dX4_watchOf_8 (by decide) ?_
  refine lv_istore (lv' := [(4, .int (zI 11)), (3, .int (zI (-1))), (2, .int (zI (((btN (fun nm => agB n (κ j0) nm ss sf st j0 sm) 10) : Nat) : Int))), (0, .ref h), (1, .int (zI ((j0 : Nat) : Int)))]) hx hb dX4_watchOf_10 hl (by decide) rfl (fun ls hl => ?_)
  refine lv_iconst (v := zI 0) hx hb dX4_watchOf_12 rfl ?_
  refine lv_istore (lv' := [(5, .int (zI 0)), (4, .int (zI 11)), (3, .int (zI (-1))), (2, .int (zI (((btN (fun nm => agB n (κ j0) nm ss sf st j0 sm) 10) : Nat) : Int))), (0, .ref h), (1, .int (zI ((j0 : Nat) : Int)))]) hx hb dX4_watchOf_13 hl (by decide) rfl (fun ls hl => ?_)
  have cut_15 : ∀ (N_15 : Nat), ∀ (i y4 : Nat) (y3 : Int), n - i < N_15 → (i ≤ n) → ((i = 0 ∧ y3 = -1) ∨ (1 ≤ i ∧ btN (fun nm => agB n (κ j0) nm ss sf st j0 sm) 10 ≠ 0 ∧ y3 = ((wbN (lw n (κ j0) (fun nm => agB n (κ j0) nm ss sf st j0 sm)) i : Nat) : Int))) → (y4 = wfN (lw n (κ j0) (fun nm => agB n (κ j0) nm ss sf st j0 sm)) i) → ∀ (H : Heap) (locs : List Loc) (ls : Array Slot), va_P D cls [cM h b ((pm : Nat) : Int) ((n : Nat) : Int) ((k : Nat) : Int) ((d : Nat) : Int) ((rr : Nat) : Int) ((hd : Nat) : Int) ((sm : Nat) : Int) kr kq ku s0 s1 s2 s3 s4 s5 hs, cR cI (b 1) 6 g0, cR cI (b 2) 6 g1, cR cI (b 10) 18 gq] H → va_D (va_A [cM h b ((pm : Nat) : Int) ((n : Nat) : Int) ((k : Nat) : Int) ((d : Nat) : Int) ((rr : Nat) : Int) ((hd : Nat) : Int) ((sm : Nat) : Int) kr kq ku s0 s1 s2 s3 s4 s5 hs, cR cI (b 1) 6 g0, cR cI (b 2) 6 g1, cR cI (b 10) 18 gq] sz) [cM h b ((pm : Nat) : Int) ((n : Nat) : Int) ((k : Nat) : Int) ((d : Nat) : Int) ((rr : Nat) : Int) ((hd : Nat) : Int) ((sm : Nat) : Int) kr kq ku s0 s1 s2 s3 s4 s5 hs, cR cI (b 1) 6 g0, cR cI (b 2) 6 g1, cR cI (b 10) 18 gq] → va_S (va_A [cM h b ((pm : Nat) : Int) ((n : Nat) : Int) ((k : Nat) : Int) ((d : Nat) : Int) ((rr : Nat) : Int) ((hd : Nat) : Int) ((sm : Nat) : Int) kr kq ku s0 s1 s2 s3 s4 s5 hs, cR cI (b 1) 6 g0, cR cI (b 2) 6 g1, cR cI (b 10) 18 gq] sz) s.heap H locs → lv_has ls 10 [(0, .ref h), (1, .int (zI ((j0 : Nat) : Int))), (2, .int (zI (((btN (fun nm => agB n (κ j0) nm ss sf st j0 sm) 10) : Nat) : Int))), (3, .int (zI y3)), (4, .int (zI ((y4 : Nat) : Int))), (5, .int (zI ((i : Nat) : Int)))] → W p l e ({ frames := 4, cells := 0, slots := 0, locals := 98 }) s m args below meth c H locs 0 0 Qf (F0 m 15 ls []) := by
    intro N_15
    induction N_15 with
    | zero => intro i y4 y3 hm_15; exact absurd hm_15 (Nat.not_lt_zero _)
    | succ N_15 ih_15 =>
      intro i y4 y3 hm_15 hi hy3 hy4 H locs ls hP hD hS hl
      refine lv_iload hx hb dX4_watchOf_15 (lv_at hl 5 rfl) ?_
      refine lv_aload_n hx hb dX4_watchOf_17 rfl (lv_at hl 0 rfl) ?_
      refine va_get (D := D) (ci := 4) (v := .int (zI ((n : Nat) : Int))) (C := RX4) (T := TX4) (N := 32) hx hb hts inT_X4 hown hE.1 hP 0 rfl rfl 2 (by decide) (hts _ qf_X4_86) (fun _ h9 => h9) rfl dX4_watchOf_18 ?_
      refine z_icmp_ge (tgt := 154) hx hb (by omega) dX4_watchOf_21 (by decide) (fun c_21 => ?_) (fun c_21 => ?_)
      · refine lv_iload_n hx hb dX4_watchOf_154 rfl (lv_at hl 3 rfl) ?_
        rw [← hQf]
        exact z_iret K hS () (by rcases hy3 with ⟨h9, h8⟩ | ⟨h9, h7, h8⟩ <;> first | (exfalso; omega) | (rw [if_neg h7, h8, show i = n by omega]; done) | (rw [if_pos (by omega), h8]; done)) hP hD dX4_watchOf_155
      · refine lv_iload_n hx hb dX4_watchOf_24 rfl (lv_at hl 2 rfl) ?_
        refine z_if_eq (tgt := 154) hx hb (by omega) dX4_watchOf_25 (by decide) (fun c_25 => ?_) (fun c_25 => ?_)
        · refine lv_iload_n hx hb dX4_watchOf_154 rfl (lv_at hl 3 rfl) ?_
          rw [← hQf]
          exact z_iret K hS () (by rcases hy3 with ⟨h9, h8⟩ | ⟨h9, h7, h8⟩ <;> first | (exfalso; omega) | (rw [if_neg h7, h8, show i = n by omega]; done) | (rw [if_pos (by omega), h8]; done)) hP hD dX4_watchOf_155
        · refine lv_iconst (v := zI 0) hx hb dX4_watchOf_28 rfl ?_
          refine lv_istore (lv' := [(6, .int (zI 0)), (0, .ref h), (1, .int (zI ((j0 : Nat) : Int))), (2, .int (zI (((btN (fun nm => agB n (κ j0) nm ss sf st j0 sm) 10) : Nat) : Int))), (3, .int (zI y3)), (4, .int (zI ((y4 : Nat) : Int))), (5, .int (zI ((i : Nat) : Int)))]) hx hb dX4_watchOf_29 hl (by decide) rfl (fun ls hl => ?_)
          refine lv_iconst (v := zI 0) hx hb dX4_watchOf_31 rfl ?_
          refine lv_istore (lv' := [(7, .int (zI 0)), (6, .int (zI 0)), (0, .ref h), (1, .int (zI ((j0 : Nat) : Int))), (2, .int (zI (((btN (fun nm => agB n (κ j0) nm ss sf st j0 sm) 10) : Nat) : Int))), (3, .int (zI y3)), (4, .int (zI ((y4 : Nat) : Int))), (5, .int (zI ((i : Nat) : Int)))]) hx hb dX4_watchOf_32 hl (by decide) rfl (fun ls hl => ?_)
          have cut_34 : ∀ (N_34 : Nat), ∀ (i1 y6 : Nat), n - i1 < N_34 → (i1 ≤ n) → (y6 = mx (lwc n (κ j0) (fun nm => agB n (κ j0) nm ss sf st j0 sm) i 10) i1) → (y6 ≤ 10) → ∀ (H : Heap) (locs : List Loc) (ls : Array Slot), va_P D cls [cM h b ((pm : Nat) : Int) ((n : Nat) : Int) ((k : Nat) : Int) ((d : Nat) : Int) ((rr : Nat) : Int) ((hd : Nat) : Int) ((sm : Nat) : Int) kr kq ku s0 s1 s2 s3 s4 s5 hs, cR cI (b 1) 6 g0, cR cI (b 2) 6 g1, cR cI (b 10) 18 gq] H → va_D (va_A [cM h b ((pm : Nat) : Int) ((n : Nat) : Int) ((k : Nat) : Int) ((d : Nat) : Int) ((rr : Nat) : Int) ((hd : Nat) : Int) ((sm : Nat) : Int) kr kq ku s0 s1 s2 s3 s4 s5 hs, cR cI (b 1) 6 g0, cR cI (b 2) 6 g1, cR cI (b 10) 18 gq] sz) [cM h b ((pm : Nat) : Int) ((n : Nat) : Int) ((k : Nat) : Int) ((d : Nat) : Int) ((rr : Nat) : Int) ((hd : Nat) : Int) ((sm : Nat) : Int) kr kq ku s0 s1 s2 s3 s4 s5 hs, cR cI (b 1) 6 g0, cR cI (b 2) 6 g1, cR cI (b 10) 18 gq] → va_S (va_A [cM h b ((pm : Nat) : Int) ((n : Nat) : Int) ((k : Nat) : Int) ((d : Nat) : Int) ((rr : Nat) : Int) ((hd : Nat) : Int) ((sm : Nat) : Int) kr kq ku s0 s1 s2 s3 s4 s5 hs, cR cI (b 1) 6 g0, cR cI (b 2) 6 g1, cR cI (b 10) 18 gq] sz) s.heap H locs → lv_has ls 10 [(0, .ref h), (1, .int (zI ((j0 : Nat) : Int))), (2, .int (zI (((btN (fun nm => agB n (κ j0) nm ss sf st j0 sm) 10) : Nat) : Int))), (3, .int (zI y3)), (4, .int (zI ((y4 : Nat) : Int))), (5, .int (zI ((i : Nat) : Int))), (6, .int (zI ((y6 : Nat) : Int))), (7, .int (zI ((i1 : Nat) : Int)))] → W p l e ({ frames := 4, cells := 0, slots := 0, locals := 98 }) s m args below meth c H locs 0 0 Qf (F0 m 34 ls []) := by
            intro N_34
            induction N_34 with
            | zero => intro i1 y6 hm_34; exact absurd hm_34 (Nat.not_lt_zero _)
            | succ N_34 ih_34 =>
              intro i1 y6 hm_34 hi1 hy6 hy6b H locs ls hP hD hS hl
              refine lv_iload hx hb dX4_watchOf_34 (lv_at hl 7 rfl) ?_
              refine lv_aload_n hx hb dX4_watchOf_36 rfl (lv_at hl 0 rfl) ?_
              refine va_get (D := D) (ci := 4) (v := .int (zI ((n : Nat) : Int))) (C := RX4) (T := TX4) (N := 32) hx hb hts inT_X4 hown hE.1 hP 0 rfl rfl 2 (by decide) (hts _ qf_X4_86) (fun _ h9 => h9) rfl dX4_watchOf_37 ?_
              refine z_icmp_ge (tgt := 118) hx hb (by omega) dX4_watchOf_40 (by decide) (fun c_40 => ?_) (fun c_40 => ?_)
              · have hlw : y6 = lw n (κ j0) (fun nm => agB n (κ j0) nm ss sf st j0 sm) i := by rw [hy6, show i1 = n by omega]; rfl
                have hw0 := wfN_le (lw n (κ j0) (fun nm => agB n (κ j0) nm ss sf st j0 sm)) i
                rw [← hy4] at hw0
                refine lv_iload hx hb dX4_watchOf_118 (lv_at hl 6 rfl) ?_
                refine lv_iload hx hb dX4_watchOf_120 (lv_at hl 4 rfl) ?_
                refine z_icmp_ge (tgt := 130) hx hb (by omega) dX4_watchOf_122 (by decide) (fun c_122 => ?_) (fun c_122 => ?_)
                · have hb1 : y3 = ((wbN (lw n (κ j0) (fun nm => agB n (κ j0) nm ss sf st j0 sm)) (i + 1) : Nat) : Int) := by
                    rcases hy3 with ⟨h9, h8⟩ | ⟨h9, -, h8⟩
                    · subst h9; rw [wfN] at hy4; omega
                    · rw [h8, wbN, ← hy4, ← hlw, if_neg (by omega)]
                  refine lv_iload_n hx hb dX4_watchOf_130 rfl (lv_at hl 3 rfl) ?_
                  refine lv_istore_n (lv' := [(3, .int (zI y3)), (0, .ref h), (1, .int (zI ((j0 : Nat) : Int))), (2, .int (zI (((btN (fun nm => agB n (κ j0) nm ss sf st j0 sm) 10) : Nat) : Int))), (4, .int (zI ((y4 : Nat) : Int))), (5, .int (zI ((i : Nat) : Int))), (6, .int (zI ((y6 : Nat) : Int))), (7, .int (zI ((i1 : Nat) : Int)))]) hx hb dX4_watchOf_131 rfl hl (by decide) rfl (fun ls hl => ?_)
                  refine lv_iload hx hb dX4_watchOf_132 (lv_at hl 6 rfl) ?_
                  refine lv_iload hx hb dX4_watchOf_134 (lv_at hl 4 rfl) ?_
                  refine z_icmp_ge (tgt := 144) hx hb (by omega) dX4_watchOf_136 (by decide) (fun c_136 => ?_) (fun c_136 => ?_)
                  · have hf1 : y4 = wfN (lw n (κ j0) (fun nm => agB n (κ j0) nm ss sf st j0 sm)) (i + 1) := by rw [wfN, ← hy4, ← hlw, if_neg (by omega)]
                    refine lv_iload hx hb dX4_watchOf_144 (lv_at hl 4 rfl) ?_
                    refine lv_istore (lv' := [(4, .int (zI ((y4 : Nat) : Int))), (3, .int (zI y3)), (0, .ref h), (1, .int (zI ((j0 : Nat) : Int))), (2, .int (zI (((btN (fun nm => agB n (κ j0) nm ss sf st j0 sm) 10) : Nat) : Int))), (5, .int (zI ((i : Nat) : Int))), (6, .int (zI ((y6 : Nat) : Int))), (7, .int (zI ((i1 : Nat) : Int)))]) hx hb dX4_watchOf_146 hl (by decide) rfl (fun ls hl => ?_)
                    refine z_iinc (k := 5) (lv' := [(5, .int (zI (((i + 1) : Nat) : Int))), (4, .int (zI ((y4 : Nat) : Int))), (3, .int (zI y3)), (0, .ref h), (1, .int (zI ((j0 : Nat) : Int))), (2, .int (zI (((btN (fun nm => agB n (κ j0) nm ss sf st j0 sm) 10) : Nat) : Int))), (6, .int (zI ((y6 : Nat) : Int))), (7, .int (zI ((i1 : Nat) : Int)))]) hx hb (((i + 1) : Nat) : Int) (by omega) dX4_watchOf_148 hl rfl (by decide) rfl (fun ls hl => ?_)
                    refine lv_goto (tgt := 15) hx hb dX4_watchOf_151 (by decide) ?_
                    exact ih_15 (i + 1) y4 y3 (by omega) (by omega) (by first | exact Or.inr ⟨by omega, by omega, hb1⟩ | exact Or.inr ⟨by omega, by omega, hb2⟩) (by first | exact hf1 | exact hf2 | (exfalso; omega)) _ _ _ hP hD hS (lv_sub hl [3, 4, 5, 2, 1, 0] rfl)
                  · have hf2 : y6 = wfN (lw n (κ j0) (fun nm => agB n (κ j0) nm ss sf st j0 sm)) (i + 1) := by rw [wfN, ← hy4, ← hlw, if_pos (by omega)]
                    refine lv_iload hx hb dX4_watchOf_139 (lv_at hl 6 rfl) ?_
                    refine lv_goto (tgt := 146) hx hb dX4_watchOf_141 (by decide) ?_
                    refine lv_istore (lv' := [(4, .int (zI ((y6 : Nat) : Int))), (3, .int (zI y3)), (0, .ref h), (1, .int (zI ((j0 : Nat) : Int))), (2, .int (zI (((btN (fun nm => agB n (κ j0) nm ss sf st j0 sm) 10) : Nat) : Int))), (5, .int (zI ((i : Nat) : Int))), (6, .int (zI ((y6 : Nat) : Int))), (7, .int (zI ((i1 : Nat) : Int)))]) hx hb dX4_watchOf_146 hl (by decide) rfl (fun ls hl => ?_)
                    refine z_iinc (k := 5) (lv' := [(5, .int (zI (((i + 1) : Nat) : Int))), (4, .int (zI ((y6 : Nat) : Int))), (3, .int (zI y3)), (0, .ref h), (1, .int (zI ((j0 : Nat) : Int))), (2, .int (zI (((btN (fun nm => agB n (κ j0) nm ss sf st j0 sm) 10) : Nat) : Int))), (6, .int (zI ((y6 : Nat) : Int))), (7, .int (zI ((i1 : Nat) : Int)))]) hx hb (((i + 1) : Nat) : Int) (by omega) dX4_watchOf_148 hl rfl (by decide) rfl (fun ls hl => ?_)
                    refine lv_goto (tgt := 15) hx hb dX4_watchOf_151 (by decide) ?_
                    exact ih_15 (i + 1) y6 y3 (by omega) (by omega) (by first | exact Or.inr ⟨by omega, by omega, hb1⟩ | exact Or.inr ⟨by omega, by omega, hb2⟩) (by first | exact hf1 | exact hf2 | (exfalso; omega)) _ _ _ hP hD hS (lv_sub hl [3, 4, 5, 2, 1, 0] rfl)
                · have hb2 : ((i : Nat) : Int) = ((wbN (lw n (κ j0) (fun nm => agB n (κ j0) nm ss sf st j0 sm)) (i + 1) : Nat) : Int) := by rw [wbN, ← hy4, ← hlw, if_pos (by omega)]
                  refine lv_iload hx hb dX4_watchOf_125 (lv_at hl 5 rfl) ?_
                  refine lv_goto (tgt := 131) hx hb dX4_watchOf_127 (by decide) ?_
                  refine lv_istore_n (lv' := [(3, .int (zI ((i : Nat) : Int))), (0, .ref h), (1, .int (zI ((j0 : Nat) : Int))), (2, .int (zI (((btN (fun nm => agB n (κ j0) nm ss sf st j0 sm) 10) : Nat) : Int))), (4, .int (zI ((y4 : Nat) : Int))), (5, .int (zI ((i : Nat) : Int))), (6, .int (zI ((y6 : Nat) : Int))), (7, .int (zI ((i1 : Nat) : Int)))]) hx hb dX4_watchOf_131 rfl hl (by decide) rfl (fun ls hl => ?_)
                  refine lv_iload hx hb dX4_watchOf_132 (lv_at hl 6 rfl) ?_
                  refine lv_iload hx hb dX4_watchOf_134 (lv_at hl 4 rfl) ?_
                  refine z_icmp_ge (tgt := 144) hx hb (by omega) dX4_watchOf_136 (by decide) (fun c_136 => ?_) (fun c_136 => ?_)
                  · have hf1 : y4 = wfN (lw n (κ j0) (fun nm => agB n (κ j0) nm ss sf st j0 sm)) (i + 1) := by rw [wfN, ← hy4, ← hlw, if_neg (by omega)]
                    refine lv_iload hx hb dX4_watchOf_144 (lv_at hl 4 rfl) ?_
                    refine lv_istore (lv' := [(4, .int (zI ((y4 : Nat) : Int))), (3, .int (zI ((i : Nat) : Int))), (0, .ref h), (1, .int (zI ((j0 : Nat) : Int))), (2, .int (zI (((btN (fun nm => agB n (κ j0) nm ss sf st j0 sm) 10) : Nat) : Int))), (5, .int (zI ((i : Nat) : Int))), (6, .int (zI ((y6 : Nat) : Int))), (7, .int (zI ((i1 : Nat) : Int)))]) hx hb dX4_watchOf_146 hl (by decide) rfl (fun ls hl => ?_)
                    refine z_iinc (k := 5) (lv' := [(5, .int (zI (((i + 1) : Nat) : Int))), (4, .int (zI ((y4 : Nat) : Int))), (3, .int (zI ((i : Nat) : Int))), (0, .ref h), (1, .int (zI ((j0 : Nat) : Int))), (2, .int (zI (((btN (fun nm => agB n (κ j0) nm ss sf st j0 sm) 10) : Nat) : Int))), (6, .int (zI ((y6 : Nat) : Int))), (7, .int (zI ((i1 : Nat) : Int)))]) hx hb (((i + 1) : Nat) : Int) (by omega) dX4_watchOf_148 hl rfl (by decide) rfl (fun ls hl => ?_)
                    refine lv_goto (tgt := 15) hx hb dX4_watchOf_151 (by decide) ?_
                    exact ih_15 (i + 1) y4 ((i : Nat) : Int) (by omega) (by omega) (by first | exact Or.inr ⟨by omega, by omega, hb1⟩ | exact Or.inr ⟨by omega, by omega, hb2⟩) (by first | exact hf1 | exact hf2 | (exfalso; omega)) _ _ _ hP hD hS (lv_sub hl [3, 4, 5, 2, 1, 0] rfl)
                  · have hf2 : y6 = wfN (lw n (κ j0) (fun nm => agB n (κ j0) nm ss sf st j0 sm)) (i + 1) := by rw [wfN, ← hy4, ← hlw, if_pos (by omega)]
                    refine lv_iload hx hb dX4_watchOf_139 (lv_at hl 6 rfl) ?_
                    refine lv_goto (tgt := 146) hx hb dX4_watchOf_141 (by decide) ?_
                    refine lv_istore (lv' := [(4, .int (zI ((y6 : Nat) : Int))), (3, .int (zI ((i : Nat) : Int))), (0, .ref h), (1, .int (zI ((j0 : Nat) : Int))), (2, .int (zI (((btN (fun nm => agB n (κ j0) nm ss sf st j0 sm) 10) : Nat) : Int))), (5, .int (zI ((i : Nat) : Int))), (6, .int (zI ((y6 : Nat) : Int))), (7, .int (zI ((i1 : Nat) : Int)))]) hx hb dX4_watchOf_146 hl (by decide) rfl (fun ls hl => ?_)
                    refine z_iinc (k := 5) (lv' := [(5, .int (zI (((i + 1) : Nat) : Int))), (4, .int (zI ((y6 : Nat) : Int))), (3, .int (zI ((i : Nat) : Int))), (0, .ref h), (1, .int (zI ((j0 : Nat) : Int))), (2, .int (zI (((btN (fun nm => agB n (κ j0) nm ss sf st j0 sm) 10) : Nat) : Int))), (6, .int (zI ((y6 : Nat) : Int))), (7, .int (zI ((i1 : Nat) : Int)))]) hx hb (((i + 1) : Nat) : Int) (by omega) dX4_watchOf_148 hl rfl (by decide) rfl (fun ls hl => ?_)
                    refine lv_goto (tgt := 15) hx hb dX4_watchOf_151 (by decide) ?_
                    exact ih_15 (i + 1) y6 ((i : Nat) : Int) (by omega) (by omega) (by first | exact Or.inr ⟨by omega, by omega, hb1⟩ | exact Or.inr ⟨by omega, by omega, hb2⟩) (by first | exact hf1 | exact hf2 | (exfalso; omega)) _ _ _ hP hD hS (lv_sub hl [3, 4, 5, 2, 1, 0] rfl)
              · refine lv_iconst (v := zI 0) hx hb dX4_watchOf_43 rfl ?_
                refine lv_istore (lv' := [(8, .int (zI 0)), (0, .ref h), (1, .int (zI ((j0 : Nat) : Int))), (2, .int (zI (((btN (fun nm => agB n (κ j0) nm ss sf st j0 sm) 10) : Nat) : Int))), (3, .int (zI y3)), (4, .int (zI ((y4 : Nat) : Int))), (5, .int (zI ((i : Nat) : Int))), (6, .int (zI ((y6 : Nat) : Int))), (7, .int (zI ((i1 : Nat) : Int)))]) hx hb dX4_watchOf_44 hl (by decide) rfl (fun ls hl => ?_)
                refine lv_iconst (v := zI 0) hx hb dX4_watchOf_46 rfl ?_
                refine lv_istore (lv' := [(9, .int (zI 0)), (8, .int (zI 0)), (0, .ref h), (1, .int (zI ((j0 : Nat) : Int))), (2, .int (zI (((btN (fun nm => agB n (κ j0) nm ss sf st j0 sm) 10) : Nat) : Int))), (3, .int (zI y3)), (4, .int (zI ((y4 : Nat) : Int))), (5, .int (zI ((i : Nat) : Int))), (6, .int (zI ((y6 : Nat) : Int))), (7, .int (zI ((i1 : Nat) : Int)))]) hx hb dX4_watchOf_47 hl (by decide) rfl (fun ls hl => ?_)
                have cut_49 : ∀ (N_49 : Nat), ∀ (i2 y8 : Nat), 10 - i2 < N_49 → (i2 ≤ 10) → (y8 = lwc n (κ j0) (fun nm => agB n (κ j0) nm ss sf st j0 sm) i i2 i1) → ∀ (H : Heap) (locs : List Loc) (ls : Array Slot), va_P D cls [cM h b ((pm : Nat) : Int) ((n : Nat) : Int) ((k : Nat) : Int) ((d : Nat) : Int) ((rr : Nat) : Int) ((hd : Nat) : Int) ((sm : Nat) : Int) kr kq ku s0 s1 s2 s3 s4 s5 hs, cR cI (b 1) 6 g0, cR cI (b 2) 6 g1, cR cI (b 10) 18 gq] H → va_D (va_A [cM h b ((pm : Nat) : Int) ((n : Nat) : Int) ((k : Nat) : Int) ((d : Nat) : Int) ((rr : Nat) : Int) ((hd : Nat) : Int) ((sm : Nat) : Int) kr kq ku s0 s1 s2 s3 s4 s5 hs, cR cI (b 1) 6 g0, cR cI (b 2) 6 g1, cR cI (b 10) 18 gq] sz) [cM h b ((pm : Nat) : Int) ((n : Nat) : Int) ((k : Nat) : Int) ((d : Nat) : Int) ((rr : Nat) : Int) ((hd : Nat) : Int) ((sm : Nat) : Int) kr kq ku s0 s1 s2 s3 s4 s5 hs, cR cI (b 1) 6 g0, cR cI (b 2) 6 g1, cR cI (b 10) 18 gq] → va_S (va_A [cM h b ((pm : Nat) : Int) ((n : Nat) : Int) ((k : Nat) : Int) ((d : Nat) : Int) ((rr : Nat) : Int) ((hd : Nat) : Int) ((sm : Nat) : Int) kr kq ku s0 s1 s2 s3 s4 s5 hs, cR cI (b 1) 6 g0, cR cI (b 2) 6 g1, cR cI (b 10) 18 gq] sz) s.heap H locs → lv_has ls 10 [(0, .ref h), (1, .int (zI ((j0 : Nat) : Int))), (2, .int (zI (((btN (fun nm => agB n (κ j0) nm ss sf st j0 sm) 10) : Nat) : Int))), (3, .int (zI y3)), (4, .int (zI ((y4 : Nat) : Int))), (5, .int (zI ((i : Nat) : Int))), (6, .int (zI ((y6 : Nat) : Int))), (7, .int (zI ((i1 : Nat) : Int))), (8, .int (zI ((y8 : Nat) : Int))), (9, .int (zI ((i2 : Nat) : Int)))] → W p l e ({ frames := 4, cells := 0, slots := 0, locals := 98 }) s m args below meth c H locs 0 0 Qf (F0 m 49 ls []) := by
                  intro N_49
                  induction N_49 with
                  | zero => intro i2 y8 hm_49; exact absurd hm_49 (Nat.not_lt_zero _)
                  | succ N_49 ih_49 =>
                    intro i2 y8 hm_49 hi2 hy8 H locs ls hP hD hS hl
                    refine lv_iload hx hb dX4_watchOf_49 (lv_at hl 9 rfl) ?_
                    refine lv_bipush (v := zI 10) hx hb dX4_watchOf_51 (by decide) ?_
                    refine z_icmp_ge (tgt := 96) hx hb (by omega) dX4_watchOf_53 (by decide) (fun c_53 => ?_) (fun c_53 => ?_)
                    · have hi29 : i2 = 10 := by omega
                      have hcb := lwc_le n (κ j0) (fun nm => agB n (κ j0) nm ss sf st j0 sm) i 10 i1
                      rw [hi29] at hy8
                      rw [← hy8] at hcb
                      refine lv_iload hx hb dX4_watchOf_96 (lv_at hl 8 rfl) ?_
                      refine lv_iload hx hb dX4_watchOf_98 (lv_at hl 6 rfl) ?_
                      refine z_icmp_le (tgt := 108) hx hb (by omega) dX4_watchOf_100 (by decide) (fun c_100 => ?_) (fun c_100 => ?_)
                      · have hm1 : y6 = mx (lwc n (κ j0) (fun nm => agB n (κ j0) nm ss sf st j0 sm) i 10) (i1 + 1) := by rw [mx, ← hy6, ← hy8]; omega
                        refine lv_iload hx hb dX4_watchOf_108 (lv_at hl 6 rfl) ?_
                        refine lv_istore (lv' := [(6, .int (zI ((y6 : Nat) : Int))), (0, .ref h), (1, .int (zI ((j0 : Nat) : Int))), (2, .int (zI (((btN (fun nm => agB n (κ j0) nm ss sf st j0 sm) 10) : Nat) : Int))), (3, .int (zI y3)), (4, .int (zI ((y4 : Nat) : Int))), (5, .int (zI ((i : Nat) : Int))), (7, .int (zI ((i1 : Nat) : Int))), (8, .int (zI ((y8 : Nat) : Int))), (9, .int (zI ((i2 : Nat) : Int)))]) hx hb dX4_watchOf_110 hl (by decide) rfl (fun ls hl => ?_)
                        refine z_iinc (k := 7) (lv' := [(7, .int (zI (((i1 + 1) : Nat) : Int))), (6, .int (zI ((y6 : Nat) : Int))), (0, .ref h), (1, .int (zI ((j0 : Nat) : Int))), (2, .int (zI (((btN (fun nm => agB n (κ j0) nm ss sf st j0 sm) 10) : Nat) : Int))), (3, .int (zI y3)), (4, .int (zI ((y4 : Nat) : Int))), (5, .int (zI ((i : Nat) : Int))), (8, .int (zI ((y8 : Nat) : Int))), (9, .int (zI ((i2 : Nat) : Int)))]) hx hb (((i1 + 1) : Nat) : Int) (by omega) dX4_watchOf_112 hl rfl (by decide) rfl (fun ls hl => ?_)
                        refine lv_goto (tgt := 34) hx hb dX4_watchOf_115 (by decide) ?_
                        exact ih_34 (i1 + 1) y6 (by omega) (by omega) (by first | exact hm1 | exact hm2) (by omega) _ _ _ hP hD hS (lv_sub hl [2, 3, 4, 5, 6, 7, 1, 0] rfl)
                      · have hm2 : y8 = mx (lwc n (κ j0) (fun nm => agB n (κ j0) nm ss sf st j0 sm) i 10) (i1 + 1) := by rw [mx, ← hy6, ← hy8]; omega
                        refine lv_iload hx hb dX4_watchOf_103 (lv_at hl 8 rfl) ?_
                        refine lv_goto (tgt := 110) hx hb dX4_watchOf_105 (by decide) ?_
                        refine lv_istore (lv' := [(6, .int (zI ((y8 : Nat) : Int))), (0, .ref h), (1, .int (zI ((j0 : Nat) : Int))), (2, .int (zI (((btN (fun nm => agB n (κ j0) nm ss sf st j0 sm) 10) : Nat) : Int))), (3, .int (zI y3)), (4, .int (zI ((y4 : Nat) : Int))), (5, .int (zI ((i : Nat) : Int))), (7, .int (zI ((i1 : Nat) : Int))), (8, .int (zI ((y8 : Nat) : Int))), (9, .int (zI ((i2 : Nat) : Int)))]) hx hb dX4_watchOf_110 hl (by decide) rfl (fun ls hl => ?_)
                        refine z_iinc (k := 7) (lv' := [(7, .int (zI (((i1 + 1) : Nat) : Int))), (6, .int (zI ((y8 : Nat) : Int))), (0, .ref h), (1, .int (zI ((j0 : Nat) : Int))), (2, .int (zI (((btN (fun nm => agB n (κ j0) nm ss sf st j0 sm) 10) : Nat) : Int))), (3, .int (zI y3)), (4, .int (zI ((y4 : Nat) : Int))), (5, .int (zI ((i : Nat) : Int))), (8, .int (zI ((y8 : Nat) : Int))), (9, .int (zI ((i2 : Nat) : Int)))]) hx hb (((i1 + 1) : Nat) : Int) (by omega) dX4_watchOf_112 hl rfl (by decide) rfl (fun ls hl => ?_)
                        refine lv_goto (tgt := 34) hx hb dX4_watchOf_115 (by decide) ?_
                        exact ih_34 (i1 + 1) y8 (by omega) (by omega) (by first | exact hm1 | exact hm2) (by omega) _ _ _ hP hD hS (lv_sub hl [2, 3, 4, 5, 6, 7, 1, 0] rfl)
                    · refine lv_iload hx hb dX4_watchOf_56 (lv_at hl 8 rfl) ?_
                      refine lv_aload_n hx hb dX4_watchOf_58 rfl (lv_at hl 0 rfl) ?_
                      refine lv_aload_n hx hb dX4_watchOf_59 rfl (lv_at hl 0 rfl) ?_
                      refine va_get (D := D) (ci := 4) (v := .ref (b 1)) (C := RX4) (T := TX4) (N := 32) hx hb hts inT_X4 hown hE.1 hP 0 rfl rfl 6 (by decide) (hts _ qf_X4_13) (fun _ h9 => h9) rfl dX4_watchOf_60 ?_
                      refine lv_iload_n hx hb dX4_watchOf_63 rfl (lv_at hl 1 rfl) ?_
                      refine z_iald hx hb hE hP 1 rfl j0 (by omega) (by omega) (by first | decide | omega) ((κ j0 : Nat) : Int) (hg0 j0 hj0) dX4_watchOf_64 ?_
                      refine lv_iload hx hb dX4_watchOf_65 (lv_at hl 9 rfl) ?_
                      refine lv_iload hx hb dX4_watchOf_67 (lv_at hl 5 rfl) ?_
                      have h5 := mv_lt (n := n) (kd := κ j0) (nm := i2) (p := i) hn.2 hκ0 (by omega) (by omega)
                      have hbit := btN_bit (P := (fun nm => agB n (κ j0) nm ss sf st j0 sm)) (m := 10) (i := i2) (by omega)
                      have hcb := lwc_le n (κ j0) (fun nm => agB n (κ j0) nm ss sf st j0 sm) i i2 i1
                      refine zcall_i (wc := [cM h b ((pm : Nat) : Int) ((n : Nat) : Int) ((k : Nat) : Int) ((d : Nat) : Int) ((rr : Nat) : Int) ((hd : Nat) : Int) ((sm : Nat) : Int) kr kq ku s0 s1 s2 s3 s4 s5 hs]) (wr := [cR cI (b 1) 6 g0, cR cI (b 2) 6 g1, cR cI (b 10) 18 gq]) (rest := [.int (zI ((y8 : Nat) : Int))]) hE hP hD hS hA [0] [1, 2, 3] [3, 0, 1, 2] rfl rfl (by decide) (by decide) (by decide) (fun (u : Unit) => [cM h b ((pm : Nat) : Int) ((n : Nat) : Int) ((k : Nat) : Int) ((d : Nat) : Int) ((rr : Nat) : Int) ((hd : Nat) : Int) ((sm : Nat) : Int) kr kq ku s0 s1 s2 s3 s4 s5 hs, cR cI (b 1) 6 g0, cR cI (b 2) 6 g1, cR cI (b 10) 18 gq]) (fun u => rfl) (fun hPc hDc => zrunV (As := [.int (zI ((κ j0 : Nat) : Int)), .int (zI ((i2 : Nat) : Int)), .int (zI ((i : Nat) : Int))]) (rest := [.int (zI ((y8 : Nat) : Int))]) (q0 := 0) (ci := 4) K k_X4_goesBy qm_X4_118 ⟨⟨rfl, rfl⟩, ⟨Nat.le_of_ble_eq_true rfl, Nat.le_of_ble_eq_true rfl⟩⟩ rfl rfl hPc hDc (c_X4_goesBy l D cI h b pm n k d rr hd sm kr kq ku s0 s1 s2 s3 s4 s5 hs (κ j0) i2 i (by first | assumption | omega) (by first | assumption | omega) (by first | assumption | omega) (by first | assumption | omega) _) rfl hl.1 rfl (Nat.le_of_ble_eq_true rfl) dX4_watchOf_69 ⟨Nat.zero_le _, Nat.zero_le _⟩) (by decide) (fun z u H locs hpost hP hD hS => ?_)
                      subst hpost
                      have hP : va_P D cls [cM h b ((pm : Nat) : Int) ((n : Nat) : Int) ((k : Nat) : Int) ((d : Nat) : Int) ((rr : Nat) : Int) ((hd : Nat) : Int) ((sm : Nat) : Int) kr kq ku s0 s1 s2 s3 s4 s5 hs, cR cI (b 1) 6 g0, cR cI (b 2) 6 g1, cR cI (b 10) 18 gq] H := hP
                      have hD : va_D (va_A [cM h b ((pm : Nat) : Int) ((n : Nat) : Int) ((k : Nat) : Int) ((d : Nat) : Int) ((rr : Nat) : Int) ((hd : Nat) : Int) ((sm : Nat) : Int) kr kq ku s0 s1 s2 s3 s4 s5 hs, cR cI (b 1) 6 g0, cR cI (b 2) 6 g1, cR cI (b 10) 18 gq] sz) [cM h b ((pm : Nat) : Int) ((n : Nat) : Int) ((k : Nat) : Int) ((d : Nat) : Int) ((rr : Nat) : Int) ((hd : Nat) : Int) ((sm : Nat) : Int) kr kq ku s0 s1 s2 s3 s4 s5 hs, cR cI (b 1) 6 g0, cR cI (b 2) 6 g1, cR cI (b 10) 18 gq] := hD
                      refine W.eq (g2 := F0 m 72 ls [.int (zI (((mv n (κ j0) i2 i) : Nat) : Int)), .int (zI ((y8 : Nat) : Int))]) rfl ?_
                      refine lv_iload hx hb dX4_watchOf_72 (lv_at hl 7 rfl) ?_
                      refine z_icmp_ne (tgt := 86) hx hb (by omega) dX4_watchOf_74 (by decide) (fun c_74 => ?_) (fun c_74 => ?_)
                      · have hc1 : y8 = lwc n (κ j0) (fun nm => agB n (κ j0) nm ss sf st j0 sm) i (i2 + 1) i1 := by rw [lwc_f (Or.inr (by omega))]; exact hy8
                        refine lv_iconst (v := zI 0) hx hb dX4_watchOf_86 rfl ?_
                        refine z_iadd hx hb ((y8 : Nat) : Int) (by omega) dX4_watchOf_87 ?_
                        refine lv_istore (lv' := [(8, .int (zI ((y8 : Nat) : Int))), (0, .ref h), (1, .int (zI ((j0 : Nat) : Int))), (2, .int (zI (((btN (fun nm => agB n (κ j0) nm ss sf st j0 sm) 10) : Nat) : Int))), (3, .int (zI y3)), (4, .int (zI ((y4 : Nat) : Int))), (5, .int (zI ((i : Nat) : Int))), (6, .int (zI ((y6 : Nat) : Int))), (7, .int (zI ((i1 : Nat) : Int))), (9, .int (zI ((i2 : Nat) : Int)))]) hx hb dX4_watchOf_88 hl (by decide) rfl (fun ls hl => ?_)
                        refine z_iinc (k := 9) (lv' := [(9, .int (zI (((i2 + 1) : Nat) : Int))), (8, .int (zI ((y8 : Nat) : Int))), (0, .ref h), (1, .int (zI ((j0 : Nat) : Int))), (2, .int (zI (((btN (fun nm => agB n (κ j0) nm ss sf st j0 sm) 10) : Nat) : Int))), (3, .int (zI y3)), (4, .int (zI ((y4 : Nat) : Int))), (5, .int (zI ((i : Nat) : Int))), (6, .int (zI ((y6 : Nat) : Int))), (7, .int (zI ((i1 : Nat) : Int)))]) hx hb (((i2 + 1) : Nat) : Int) (by omega) dX4_watchOf_90 hl rfl (by decide) rfl (fun ls hl => ?_)
                        refine lv_goto (tgt := 49) hx hb dX4_watchOf_93 (by decide) ?_
                        exact ih_49 (i2 + 1) y8 (by omega) (by omega) (by first | exact hc1 | exact hc2) _ _ _ hP hD hS (lv_sub hl [2, 3, 4, 5, 6, 7, 8, 9, 1, 0] rfl)
                      · have hc2 : y8 + btN (fun nm => agB n (κ j0) nm ss sf st j0 sm) 10 / 2 ^ i2 % 2 = lwc n (κ j0) (fun nm => agB n (κ j0) nm ss sf st j0 sm) i (i2 + 1) i1 := by
                          rw [hbit]
                          cases hPi : agB n (κ j0) i2 ss sf st j0 sm with
                          | true => rw [if_pos rfl, lwc_t (P := (fun nm => agB n (κ j0) nm ss sf st j0 sm)) (m := i2) hPi (by omega), ← hy8]
                          | false => rw [if_neg (by decide), lwc_f (P := (fun nm => agB n (κ j0) nm ss sf st j0 sm)) (m := i2) (Or.inl hPi), ← hy8]; rfl
                        refine lv_iload_n hx hb dX4_watchOf_77 rfl (lv_at hl 2 rfl) ?_
                        refine lv_iload hx hb dX4_watchOf_78 (lv_at hl 9 rfl) ?_
                        refine z_ishr hx hb ((btN (fun nm => agB n (κ j0) nm ss sf st j0 sm) 10 / 2 ^ i2 : Nat) : Int) (by exact zI_shr hB (by omega)) dX4_watchOf_80 ?_
                        refine lv_iconst (v := zI 1) hx hb dX4_watchOf_81 rfl ?_
                        refine z_iand hx hb (((btN (fun nm => agB n (κ j0) nm ss sf st j0 sm) 10 / 2 ^ i2 % 2) : Nat) : Int) (by exact zI_and1 (Nat.lt_of_le_of_lt (Nat.div_le_self _ _) (by omega))) dX4_watchOf_82 ?_
                        refine lv_goto (tgt := 87) hx hb dX4_watchOf_83 (by decide) ?_
                        refine z_iadd hx hb (((y8 + (btN (fun nm => agB n (κ j0) nm ss sf st j0 sm) 10 / 2 ^ i2 % 2)) : Nat) : Int) (by omega) dX4_watchOf_87 ?_
                        refine lv_istore (lv' := [(8, .int (zI (((y8 + (btN (fun nm => agB n (κ j0) nm ss sf st j0 sm) 10 / 2 ^ i2 % 2)) : Nat) : Int))), (0, .ref h), (1, .int (zI ((j0 : Nat) : Int))), (2, .int (zI (((btN (fun nm => agB n (κ j0) nm ss sf st j0 sm) 10) : Nat) : Int))), (3, .int (zI y3)), (4, .int (zI ((y4 : Nat) : Int))), (5, .int (zI ((i : Nat) : Int))), (6, .int (zI ((y6 : Nat) : Int))), (7, .int (zI ((i1 : Nat) : Int))), (9, .int (zI ((i2 : Nat) : Int)))]) hx hb dX4_watchOf_88 hl (by decide) rfl (fun ls hl => ?_)
                        refine z_iinc (k := 9) (lv' := [(9, .int (zI (((i2 + 1) : Nat) : Int))), (8, .int (zI (((y8 + (btN (fun nm => agB n (κ j0) nm ss sf st j0 sm) 10 / 2 ^ i2 % 2)) : Nat) : Int))), (0, .ref h), (1, .int (zI ((j0 : Nat) : Int))), (2, .int (zI (((btN (fun nm => agB n (κ j0) nm ss sf st j0 sm) 10) : Nat) : Int))), (3, .int (zI y3)), (4, .int (zI ((y4 : Nat) : Int))), (5, .int (zI ((i : Nat) : Int))), (6, .int (zI ((y6 : Nat) : Int))), (7, .int (zI ((i1 : Nat) : Int)))]) hx hb (((i2 + 1) : Nat) : Int) (by omega) dX4_watchOf_90 hl rfl (by decide) rfl (fun ls hl => ?_)
                        refine lv_goto (tgt := 49) hx hb dX4_watchOf_93 (by decide) ?_
                        exact ih_49 (i2 + 1) (y8 + (btN (fun nm => agB n (κ j0) nm ss sf st j0 sm) 10 / 2 ^ i2 % 2)) (by omega) (by omega) (by first | exact hc1 | exact hc2) _ _ _ hP hD hS (lv_sub hl [2, 3, 4, 5, 6, 7, 8, 9, 1, 0] rfl)
                exact cut_49 (10 - 0 + 1) 0 0 (Nat.lt_succ_self _) (by omega) (by rfl) _ _ _ hP hD hS (lv_sub hl [2, 3, 4, 5, 6, 7, 8, 9, 1, 0] rfl)
          exact cut_34 (n - 0 + 1) 0 0 (Nat.lt_succ_self _) (by omega) (by rfl) (by omega) _ _ _ hP hD hS (lv_sub hl [2, 3, 4, 5, 6, 7, 1, 0] rfl)
  exact cut_15 (n - 0 + 1) 0 11 (-1) (Nat.lt_succ_self _) (by omega) (by exact Or.inl ⟨rfl, rfl⟩) (by rfl) _ _ _ hP hD hS (lv_sub hl [4, 5, 3, 2, 1, 0] rfl)
set_option maxHeartbeats 4000000 in
set_option maxRecDepth 100000 in
theorem c_X4_tellStep (l : Launch) (D : va_G) (cI : ClassId) (h : Nat) (b : Nat → Nat) (pm n k d rr hd sm : Nat) (kr kq ku s0 s1 s2 s3 s4 s5 hs : Int) (g0 g1 : Nat → Int) (κ ν : Nat → Nat) (gq : Nat → Int) (ss sf st : Nat → Nat) (f : Nat → Int) (j0 : Nat) (y2 : Int) (hn : 2 ≤ n ∧ n ≤ 12) (hk : k ≤ 6) (hg0 : ∀ j, j < k → g0 j = ((κ j : Nat) : Int)) (hκ : ∀ j, j < k → κ j ≤ 4) (hg1 : ∀ j, j < k → g1 j = ((ν j : Nat) : Int)) (hν : ∀ j, j < k → ν j ≤ 9) (hv : sm ≤ 6) (hq0 : ∀ j, j < sm → gq (3 * j) = ((ss j : Nat) : Int)) (hss : ∀ j, j < sm → ss j < k) (hq1 : ∀ j, j < sm → gq (3 * j + 1) = ((sf j : Nat) : Int)) (hsf : ∀ j, j < sm → sf j < n) (hq2 : ∀ j, j < sm → gq (3 * j + 2) = ((st j : Nat) : Int)) (hst : ∀ j, j < sm → st j < n) (hj0 : j0 < k) (hy2 : -2147483648 ≤ y2 ∧ y2 < 2147483648) : zMi l yX4_tellStep cX4_tellStep 3 (some .int) ({ frames := 5, cells := 0, slots := 0, locals := 127 }) D cI [.ref h, .int (zI ((j0 : Nat) : Int)), .int (zI y2)] [cM h b ((pm : Nat) : Int) ((n : Nat) : Int) ((k : Nat) : Int) ((d : Nat) : Int) ((rr : Nat) : Int) ((hd : Nat) : Int) ((sm : Nat) : Int) kr kq ku s0 s1 s2 s3 s4 s5 hs, cR cI (b 1) 6 g0, cR cI (b 2) 6 g1, cR cI (b 4) 12 f, cR cI (b 10) 18 gq] (fun (z : Int) (u : (Int) × (Int) × (Int) × (Int) × (Nat → Int)) => (z = (fStp n κ ν sm ss sf st j0 y2)) ∧ (-2147483648 ≤ z ∧ z < 2147483648)) (fun (u : (Int) × (Int) × (Int) × (Int) × (Nat → Int)) => [cM h b ((pm : Nat) : Int) ((n : Nat) : Int) ((k : Nat) : Int) ((d : Nat) : Int) ((rr : Nat) : Int) ((hd : Nat) : Int) ((sm : Nat) : Int) kr kq ku u.1 u.2.1 u.2.2.1 u.2.2.2.1 s4 s5 hs, cR cI (b 1) 6 g0, cR cI (b 2) 6 g1, cR cI (b 4) 12 u.2.2.2.2, cR cI (b 10) 18 gq]) := by
  intro sz
  refine zstart rfl (by decide) (Nat.le_of_ble_eq_true rfl) ?_
  intro p e s m below meth c ls K hnm hsz hP hD hS hl
  generalize hargs : ([.ref h, .int (zI ((j0 : Nat) : Int)), .int (zI y2)] : List Value).toArray = args at K ⊢
  generalize hQf : MQ below _ args s _ _ _ = Qf
  have K : zK p s m args meth c cX4_tellStep 3 RX4 (some .int) D cI := K
  obtain ⟨hx, hb, hml, hown, hts, hE, -, -⟩ := id K
  have hA := zhA (ws0 := [cM h b ((pm : Nat) : Int) ((n : Nat) : Int) ((k : Nat) : Int) ((d : Nat) : Int) ((rr : Nat) : Int) ((hd : Nat) : Int) ((sm : Nat) : Int) kr kq ku s0 s1 s2 s3 s4 s5 hs, cR cI (b 1) 6 g0, cR cI (b 2) 6 g1, cR cI (b 4) 12 f, cR cI (b 10) 18 gq]) hsz
  have hl : lv_has ls 3 [(0, .ref h), (1, .int (zI ((j0 : Nat) : Int))), (2, .int (zI y2))] := hl
  have hμ := mus_lt (k := k) hn.2 hκ hν
  have hμi := mus_inj (k := k) hn.2 hκ hν
  have hρ : ∀ j, j < n → rdc (mus n κ ν) k j < n := fun j hj => rdc_lt hμ (Nat.le_refl k) hj
  have hρi : inj (rdc (mus n κ ν) k) n := rdc_inj hμ hμi (Nat.le_refl k)
  have hκq := hκ j0 hj0
  have hνq := hν j0 hj0
  have hB := btN_10 (fun nm => agB n (κ j0) nm ss sf st j0 sm) (Nat.le_refl 10)
  have hod := od_le (φ := mus n κ ν j0) (n := n) (i := n) hn.2 (Nat.le_refl n)
  have hct := fb_ct_le (fun j => decide (mus n κ ν j0 j = j)) n
  have hwb := wbN_le (lw n (κ j0) (fun nm => agB n (κ j0) nm ss sf st j0 sm)) n
  refine lv_iload_n hx hb dX4_tellStep_0 rfl (lv_at hl 2 rfl) ?_
  rcases (show y2 = 0 ∨ y2 = 1 ∨ y2 = 2 ∨ y2 = 3 ∨ y2 = 4 ∨ y2 = 5 ∨ (y2 ≠ 0 ∧ y2 ≠ 1 ∧ y2 ≠ 2 ∧ y2 ≠ 3 ∧ y2 ≠ 4 ∧ y2 ≠ 5) by omega) with c_1 | c_1 | c_1 | c_1 | c_1 | c_1 | c_1
  · refine lv_tableIn (tgt := 40) hx hb dX4_tellStep_1 (by rw [zI_toInt (by omega)]; omega) (by rw [zI_toInt (by omega)]; omega) (by rw [zI_toInt (by omega), c_1]; rfl) (by decide) ?_
    refine lv_aload_n hx hb dX4_tellStep_40 rfl (lv_at hl 0 rfl) ?_
    refine va_get (D := D) (ci := 4) (v := .ref (b 1)) (C := RX4) (T := TX4) (N := 32) hx hb hts inT_X4 hown hE.1 hP 0 rfl rfl 6 (by decide) (hts _ qf_X4_13) (fun _ h9 => h9) rfl dX4_tellStep_41 ?_
    refine lv_iload_n hx hb dX4_tellStep_44 rfl (lv_at hl 1 rfl) ?_
    refine z_iald hx hb hE hP 1 rfl j0 (by omega) (by omega) (by first | decide | omega) ((κ j0 : Nat) : Int) (hg0 j0 hj0) dX4_tellStep_45 ?_
    rw [← hQf]
    exact z_iret K hS (s0, s1, s2, s3, f) ⟨(by rw [c_1]; rfl), (by (try dsimp only); omega)⟩ hP hD dX4_tellStep_46
  · refine lv_tableIn (tgt := 47) hx hb dX4_tellStep_1 (by rw [zI_toInt (by omega)]; omega) (by rw [zI_toInt (by omega)]; omega) (by rw [zI_toInt (by omega), c_1]; rfl) (by decide) ?_
    refine lv_aload_n hx hb dX4_tellStep_47 rfl (lv_at hl 0 rfl) ?_
    refine va_get (D := D) (ci := 4) (v := .ref (b 2)) (C := RX4) (T := TX4) (N := 32) hx hb hts inT_X4 hown hE.1 hP 0 rfl rfl 7 (by decide) (hts _ qf_X4_16) (fun _ h9 => h9) rfl dX4_tellStep_48 ?_
    refine lv_iload_n hx hb dX4_tellStep_51 rfl (lv_at hl 1 rfl) ?_
    refine z_iald hx hb hE hP 2 rfl j0 (by omega) (by omega) (by first | decide | omega) ((ν j0 : Nat) : Int) (hg1 j0 hj0) dX4_tellStep_52 ?_
    rw [← hQf]
    exact z_iret K hS (s0, s1, s2, s3, f) ⟨(by rw [c_1]; rfl), (by (try dsimp only); omega)⟩ hP hD dX4_tellStep_53
  · refine lv_tableIn (tgt := 54) hx hb dX4_tellStep_1 (by rw [zI_toInt (by omega)]; omega) (by rw [zI_toInt (by omega)]; omega) (by rw [zI_toInt (by omega), c_1]; rfl) (by decide) ?_
    obtain ⟨w2, rfl⟩ : ∃ q : Nat, y2 = (q : Int) := ⟨y2.toNat, by omega⟩
    refine lv_aload_n hx hb dX4_tellStep_54 rfl (lv_at hl 0 rfl) ?_
    refine lv_iload_n hx hb dX4_tellStep_55 rfl (lv_at hl 1 rfl) ?_
    refine lv_iload_n hx hb dX4_tellStep_56 rfl (lv_at hl 2 rfl) ?_
    refine zcall_i (wc := [cM h b ((pm : Nat) : Int) ((n : Nat) : Int) ((k : Nat) : Int) ((d : Nat) : Int) ((rr : Nat) : Int) ((hd : Nat) : Int) ((sm : Nat) : Int) kr kq ku s0 s1 s2 s3 s4 s5 hs, cR cI (b 1) 6 g0, cR cI (b 2) 6 g1, cR cI (b 4) 12 f]) (wr := [cR cI (b 10) 18 gq]) (rest := []) hE hP hD hS hA [0, 1, 2, 3] [4] [1, 2, 3, 4, 0] rfl rfl (by decide) (by decide) (by decide) (fun (u : (Int) × (Int) × (Int) × (Int) × (Nat → Int)) => [cM h b ((pm : Nat) : Int) ((n : Nat) : Int) ((k : Nat) : Int) ((d : Nat) : Int) ((rr : Nat) : Int) ((hd : Nat) : Int) ((sm : Nat) : Int) kr kq ku u.1 u.2.1 u.2.2.1 u.2.2.2.1 s4 s5 hs, cR cI (b 1) 6 g0, cR cI (b 2) 6 g1, cR cI (b 4) 12 u.2.2.2.2, cR cI (b 10) 18 gq]) (fun u => rfl) (fun hPc hDc => zrunV (As := [.int (zI ((j0 : Nat) : Int)), .int (zI ((w2 : Nat) : Int))]) (rest := []) (q0 := 0) (ci := 4) K k_X4_ofStep qm_X4_172 ⟨⟨rfl, rfl⟩, ⟨Nat.le_of_ble_eq_true rfl, Nat.le_of_ble_eq_true rfl⟩⟩ rfl rfl hPc hDc (c_X4_ofStep l D cI h b pm n k d rr hd sm kr kq ku s0 s1 s2 s3 s4 s5 hs g0 g1 κ ν f j0 w2 (by first | assumption | omega) (by first | assumption | omega) (by first | assumption | omega) (by first | assumption | omega) (by first | assumption | omega) (by first | assumption | omega) (by first | assumption | omega) (by omega) _) rfl hl.1 rfl (Nat.le_of_ble_eq_true rfl) dX4_tellStep_57 ⟨Nat.zero_le _, Nat.zero_le _⟩) (by decide) (fun z u H locs hpost hP hD hS => ?_)
    obtain ⟨t_1, t_2, t_3, t_4, f_5⟩ := u
    subst hpost
    have hP : va_P D cls [cM h b ((pm : Nat) : Int) ((n : Nat) : Int) ((k : Nat) : Int) ((d : Nat) : Int) ((rr : Nat) : Int) ((hd : Nat) : Int) ((sm : Nat) : Int) kr kq ku t_1 t_2 t_3 t_4 s4 s5 hs, cR cI (b 1) 6 g0, cR cI (b 2) 6 g1, cR cI (b 4) 12 f_5, cR cI (b 10) 18 gq] H := hP
    have hD : va_D (va_A [cM h b ((pm : Nat) : Int) ((n : Nat) : Int) ((k : Nat) : Int) ((d : Nat) : Int) ((rr : Nat) : Int) ((hd : Nat) : Int) ((sm : Nat) : Int) kr kq ku s0 s1 s2 s3 s4 s5 hs, cR cI (b 1) 6 g0, cR cI (b 2) 6 g1, cR cI (b 4) 12 f, cR cI (b 10) 18 gq] sz) [cM h b ((pm : Nat) : Int) ((n : Nat) : Int) ((k : Nat) : Int) ((d : Nat) : Int) ((rr : Nat) : Int) ((hd : Nat) : Int) ((sm : Nat) : Int) kr kq ku t_1 t_2 t_3 t_4 s4 s5 hs, cR cI (b 1) 6 g0, cR cI (b 2) 6 g1, cR cI (b 4) 12 f_5, cR cI (b 10) 18 gq] := hD
    refine W.eq (g2 := F0 m 60 ls [.int (zI (((if w2 = 2 then fb_ct (fun j => decide (mus n κ ν j0 j = j)) n else odN (mus n κ ν j0) n n) : Nat) : Int))]) rfl ?_
    rw [← hQf]
    exact z_iret K hS (t_1, t_2, t_3, t_4, f_5) ⟨(by first | (rw [show w2 = 2 by omega]; rfl) | (rw [show w2 = 3 by omega]; rfl)), (by (try dsimp only); split <;> omega)⟩ hP hD dX4_tellStep_60
  · refine lv_tableIn (tgt := 54) hx hb dX4_tellStep_1 (by rw [zI_toInt (by omega)]; omega) (by rw [zI_toInt (by omega)]; omega) (by rw [zI_toInt (by omega), c_1]; rfl) (by decide) ?_
    obtain ⟨w2, rfl⟩ : ∃ q : Nat, y2 = (q : Int) := ⟨y2.toNat, by omega⟩
    refine lv_aload_n hx hb dX4_tellStep_54 rfl (lv_at hl 0 rfl) ?_
    refine lv_iload_n hx hb dX4_tellStep_55 rfl (lv_at hl 1 rfl) ?_
    refine lv_iload_n hx hb dX4_tellStep_56 rfl (lv_at hl 2 rfl) ?_
    refine zcall_i (wc := [cM h b ((pm : Nat) : Int) ((n : Nat) : Int) ((k : Nat) : Int) ((d : Nat) : Int) ((rr : Nat) : Int) ((hd : Nat) : Int) ((sm : Nat) : Int) kr kq ku s0 s1 s2 s3 s4 s5 hs, cR cI (b 1) 6 g0, cR cI (b 2) 6 g1, cR cI (b 4) 12 f]) (wr := [cR cI (b 10) 18 gq]) (rest := []) hE hP hD hS hA [0, 1, 2, 3] [4] [1, 2, 3, 4, 0] rfl rfl (by decide) (by decide) (by decide) (fun (u : (Int) × (Int) × (Int) × (Int) × (Nat → Int)) => [cM h b ((pm : Nat) : Int) ((n : Nat) : Int) ((k : Nat) : Int) ((d : Nat) : Int) ((rr : Nat) : Int) ((hd : Nat) : Int) ((sm : Nat) : Int) kr kq ku u.1 u.2.1 u.2.2.1 u.2.2.2.1 s4 s5 hs, cR cI (b 1) 6 g0, cR cI (b 2) 6 g1, cR cI (b 4) 12 u.2.2.2.2, cR cI (b 10) 18 gq]) (fun u => rfl) (fun hPc hDc => zrunV (As := [.int (zI ((j0 : Nat) : Int)), .int (zI ((w2 : Nat) : Int))]) (rest := []) (q0 := 0) (ci := 4) K k_X4_ofStep qm_X4_172 ⟨⟨rfl, rfl⟩, ⟨Nat.le_of_ble_eq_true rfl, Nat.le_of_ble_eq_true rfl⟩⟩ rfl rfl hPc hDc (c_X4_ofStep l D cI h b pm n k d rr hd sm kr kq ku s0 s1 s2 s3 s4 s5 hs g0 g1 κ ν f j0 w2 (by first | assumption | omega) (by first | assumption | omega) (by first | assumption | omega) (by first | assumption | omega) (by first | assumption | omega) (by first | assumption | omega) (by first | assumption | omega) (by omega) _) rfl hl.1 rfl (Nat.le_of_ble_eq_true rfl) dX4_tellStep_57 ⟨Nat.zero_le _, Nat.zero_le _⟩) (by decide) (fun z u H locs hpost hP hD hS => ?_)
    obtain ⟨t_6, t_7, t_8, t_9, f_10⟩ := u
    subst hpost
    have hP : va_P D cls [cM h b ((pm : Nat) : Int) ((n : Nat) : Int) ((k : Nat) : Int) ((d : Nat) : Int) ((rr : Nat) : Int) ((hd : Nat) : Int) ((sm : Nat) : Int) kr kq ku t_6 t_7 t_8 t_9 s4 s5 hs, cR cI (b 1) 6 g0, cR cI (b 2) 6 g1, cR cI (b 4) 12 f_10, cR cI (b 10) 18 gq] H := hP
    have hD : va_D (va_A [cM h b ((pm : Nat) : Int) ((n : Nat) : Int) ((k : Nat) : Int) ((d : Nat) : Int) ((rr : Nat) : Int) ((hd : Nat) : Int) ((sm : Nat) : Int) kr kq ku s0 s1 s2 s3 s4 s5 hs, cR cI (b 1) 6 g0, cR cI (b 2) 6 g1, cR cI (b 4) 12 f, cR cI (b 10) 18 gq] sz) [cM h b ((pm : Nat) : Int) ((n : Nat) : Int) ((k : Nat) : Int) ((d : Nat) : Int) ((rr : Nat) : Int) ((hd : Nat) : Int) ((sm : Nat) : Int) kr kq ku t_6 t_7 t_8 t_9 s4 s5 hs, cR cI (b 1) 6 g0, cR cI (b 2) 6 g1, cR cI (b 4) 12 f_10, cR cI (b 10) 18 gq] := hD
    refine W.eq (g2 := F0 m 60 ls [.int (zI (((if w2 = 2 then fb_ct (fun j => decide (mus n κ ν j0 j = j)) n else odN (mus n κ ν j0) n n) : Nat) : Int))]) rfl ?_
    rw [← hQf]
    exact z_iret K hS (t_6, t_7, t_8, t_9, f_10) ⟨(by first | (rw [show w2 = 2 by omega]; rfl) | (rw [show w2 = 3 by omega]; rfl)), (by (try dsimp only); split <;> omega)⟩ hP hD dX4_tellStep_60
  · refine lv_tableIn (tgt := 61) hx hb dX4_tellStep_1 (by rw [zI_toInt (by omega)]; omega) (by rw [zI_toInt (by omega)]; omega) (by rw [zI_toInt (by omega), c_1]; rfl) (by decide) ?_
    refine lv_aload_n hx hb dX4_tellStep_61 rfl (lv_at hl 0 rfl) ?_
    refine lv_iload_n hx hb dX4_tellStep_62 rfl (lv_at hl 1 rfl) ?_
    refine zcall_i (wc := [cM h b ((pm : Nat) : Int) ((n : Nat) : Int) ((k : Nat) : Int) ((d : Nat) : Int) ((rr : Nat) : Int) ((hd : Nat) : Int) ((sm : Nat) : Int) kr kq ku s0 s1 s2 s3 s4 s5 hs, cR cI (b 1) 6 g0, cR cI (b 2) 6 g1, cR cI (b 10) 18 gq]) (wr := [cR cI (b 4) 12 f]) (rest := []) hE hP hD hS hA [0, 1, 2, 4] [3] [1, 2, 3, 0, 4] rfl rfl (by decide) (by decide) (by decide) (fun (u : Unit) => [cM h b ((pm : Nat) : Int) ((n : Nat) : Int) ((k : Nat) : Int) ((d : Nat) : Int) ((rr : Nat) : Int) ((hd : Nat) : Int) ((sm : Nat) : Int) kr kq ku s0 s1 s2 s3 s4 s5 hs, cR cI (b 1) 6 g0, cR cI (b 2) 6 g1, cR cI (b 4) 12 f, cR cI (b 10) 18 gq]) (fun u => rfl) (fun hPc hDc => zrunV (As := [.int (zI ((j0 : Nat) : Int))]) (rest := []) (q0 := 0) (ci := 4) K k_X4_numbersOf qm_X4_175 ⟨⟨rfl, rfl⟩, ⟨Nat.le_of_ble_eq_true rfl, Nat.le_of_ble_eq_true rfl⟩⟩ rfl rfl hPc hDc (c_X4_numbersOf l D cI h b pm n k d rr hd sm kr kq ku s0 s1 s2 s3 s4 s5 hs g0 g1 κ ν gq ss sf st j0 (by first | assumption | omega) (by first | assumption | omega) (by first | assumption | omega) (by first | assumption | omega) (by first | assumption | omega) (by first | assumption | omega) (by first | assumption | omega) (by first | assumption | omega) (by first | assumption | omega) (by first | assumption | omega) (by first | assumption | omega) (by first | assumption | omega) (by first | assumption | omega) (by first | assumption | omega) _) rfl hl.1 rfl (Nat.le_of_ble_eq_true rfl) dX4_tellStep_63 ⟨Nat.zero_le _, Nat.zero_le _⟩) (by decide) (fun z u H locs hpost hP hD hS => ?_)
    subst hpost
    have hP : va_P D cls [cM h b ((pm : Nat) : Int) ((n : Nat) : Int) ((k : Nat) : Int) ((d : Nat) : Int) ((rr : Nat) : Int) ((hd : Nat) : Int) ((sm : Nat) : Int) kr kq ku s0 s1 s2 s3 s4 s5 hs, cR cI (b 1) 6 g0, cR cI (b 2) 6 g1, cR cI (b 4) 12 f, cR cI (b 10) 18 gq] H := hP
    have hD : va_D (va_A [cM h b ((pm : Nat) : Int) ((n : Nat) : Int) ((k : Nat) : Int) ((d : Nat) : Int) ((rr : Nat) : Int) ((hd : Nat) : Int) ((sm : Nat) : Int) kr kq ku s0 s1 s2 s3 s4 s5 hs, cR cI (b 1) 6 g0, cR cI (b 2) 6 g1, cR cI (b 4) 12 f, cR cI (b 10) 18 gq] sz) [cM h b ((pm : Nat) : Int) ((n : Nat) : Int) ((k : Nat) : Int) ((d : Nat) : Int) ((rr : Nat) : Int) ((hd : Nat) : Int) ((sm : Nat) : Int) kr kq ku s0 s1 s2 s3 s4 s5 hs, cR cI (b 1) 6 g0, cR cI (b 2) 6 g1, cR cI (b 4) 12 f, cR cI (b 10) 18 gq] := hD
    refine W.eq (g2 := F0 m 66 ls [.int (zI (((btN (fun nm => agB n (κ j0) nm ss sf st j0 sm) 10) : Nat) : Int))]) rfl ?_
    rw [← hQf]
    exact z_iret K hS (s0, s1, s2, s3, f) ⟨(by rw [c_1]; rfl), (by (try dsimp only); omega)⟩ hP hD dX4_tellStep_66
  · refine lv_tableIn (tgt := 67) hx hb dX4_tellStep_1 (by rw [zI_toInt (by omega)]; omega) (by rw [zI_toInt (by omega)]; omega) (by rw [zI_toInt (by omega), c_1]; rfl) (by decide) ?_
    refine lv_aload_n hx hb dX4_tellStep_67 rfl (lv_at hl 0 rfl) ?_
    refine lv_iload_n hx hb dX4_tellStep_68 rfl (lv_at hl 1 rfl) ?_
    refine zcall_i (wc := [cM h b ((pm : Nat) : Int) ((n : Nat) : Int) ((k : Nat) : Int) ((d : Nat) : Int) ((rr : Nat) : Int) ((hd : Nat) : Int) ((sm : Nat) : Int) kr kq ku s0 s1 s2 s3 s4 s5 hs, cR cI (b 1) 6 g0, cR cI (b 2) 6 g1, cR cI (b 10) 18 gq]) (wr := [cR cI (b 4) 12 f]) (rest := []) hE hP hD hS hA [0, 1, 2, 4] [3] [1, 2, 3, 0, 4] rfl rfl (by decide) (by decide) (by decide) (fun (u : Unit) => [cM h b ((pm : Nat) : Int) ((n : Nat) : Int) ((k : Nat) : Int) ((d : Nat) : Int) ((rr : Nat) : Int) ((hd : Nat) : Int) ((sm : Nat) : Int) kr kq ku s0 s1 s2 s3 s4 s5 hs, cR cI (b 1) 6 g0, cR cI (b 2) 6 g1, cR cI (b 4) 12 f, cR cI (b 10) 18 gq]) (fun u => rfl) (fun hPc hDc => zrunV (As := [.int (zI ((j0 : Nat) : Int))]) (rest := []) (q0 := 0) (ci := 4) K k_X4_watchOf qm_X4_178 ⟨⟨rfl, rfl⟩, ⟨Nat.le_of_ble_eq_true rfl, Nat.le_of_ble_eq_true rfl⟩⟩ rfl rfl hPc hDc (c_X4_watchOf l D cI h b pm n k d rr hd sm kr kq ku s0 s1 s2 s3 s4 s5 hs g0 g1 κ ν gq ss sf st j0 (by first | assumption | omega) (by first | assumption | omega) (by first | assumption | omega) (by first | assumption | omega) (by first | assumption | omega) (by first | assumption | omega) (by first | assumption | omega) (by first | assumption | omega) (by first | assumption | omega) (by first | assumption | omega) (by first | assumption | omega) (by first | assumption | omega) (by first | assumption | omega) (by first | assumption | omega) _) rfl hl.1 rfl (Nat.le_of_ble_eq_true rfl) dX4_tellStep_69 ⟨Nat.zero_le _, Nat.zero_le _⟩) (by decide) (fun z u H locs hpost hP hD hS => ?_)
    subst hpost
    have hP : va_P D cls [cM h b ((pm : Nat) : Int) ((n : Nat) : Int) ((k : Nat) : Int) ((d : Nat) : Int) ((rr : Nat) : Int) ((hd : Nat) : Int) ((sm : Nat) : Int) kr kq ku s0 s1 s2 s3 s4 s5 hs, cR cI (b 1) 6 g0, cR cI (b 2) 6 g1, cR cI (b 4) 12 f, cR cI (b 10) 18 gq] H := hP
    have hD : va_D (va_A [cM h b ((pm : Nat) : Int) ((n : Nat) : Int) ((k : Nat) : Int) ((d : Nat) : Int) ((rr : Nat) : Int) ((hd : Nat) : Int) ((sm : Nat) : Int) kr kq ku s0 s1 s2 s3 s4 s5 hs, cR cI (b 1) 6 g0, cR cI (b 2) 6 g1, cR cI (b 4) 12 f, cR cI (b 10) 18 gq] sz) [cM h b ((pm : Nat) : Int) ((n : Nat) : Int) ((k : Nat) : Int) ((d : Nat) : Int) ((rr : Nat) : Int) ((hd : Nat) : Int) ((sm : Nat) : Int) kr kq ku s0 s1 s2 s3 s4 s5 hs, cR cI (b 1) 6 g0, cR cI (b 2) 6 g1, cR cI (b 4) 12 f, cR cI (b 10) 18 gq] := hD
    refine W.eq (g2 := F0 m 72 ls [.int (zI (if btN (fun nm => agB n (κ j0) nm ss sf st j0 sm) 10 = 0 then (-1 : Int) else ((wbN (lw n (κ j0) (fun nm => agB n (κ j0) nm ss sf st j0 sm)) n : Nat) : Int)))]) rfl ?_
    rw [← hQf]
    exact z_iret K hS (s0, s1, s2, s3, f) ⟨(by rw [c_1]; rfl), (by (try dsimp only); split <;> omega)⟩ hP hD dX4_tellStep_72
  · refine lv_tableOut (tgt := 73) hx hb dX4_tellStep_1 (by rw [zI_toInt (by omega)]; omega) (by decide) ?_
    refine lv_bipush (v := zI (-102)) hx hb dX4_tellStep_73 (by decide) ?_
    rw [← hQf]
    exact z_iret K hS (s0, s1, s2, s3, f) ⟨(by simp only [fStp]; rw [if_neg (by omega), if_neg (by omega), if_neg (by omega), if_neg (by omega), if_neg (by omega), if_neg (by omega)]), (by (try dsimp only); omega)⟩ hP hD dX4_tellStep_75
set_option maxHeartbeats 4000000 in
set_option maxRecDepth 100000 in
theorem c_X4_layFar (l : Launch) (D : va_G) (cI : ClassId) (h : Nat) (b : Nat → Nat) (pm n k d rr hd sm : Nat) (kr kq ku s0 s1 s2 s3 s4 s5 hs : Int) (g0 g1 : Nat → Int) (κ ν : Nat → Nat) (q7 : Nat → Int) (p1 : Nat) (hn : 2 ≤ n ∧ n ≤ 12) (hk : k ≤ 6) (hg0 : ∀ j, j < k → g0 j = ((κ j : Nat) : Int)) (hκ : ∀ j, j < k → κ j ≤ 4) (hg1 : ∀ j, j < k → g1 j = ((ν j : Nat) : Int)) (hν : ∀ j, j < k → ν j ≤ 9) (hp1 : p1 < n) (hk1 : 1 ≤ k) : zMv l yX4_layFar cX4_layFar 5 none ({ frames := 4, cells := 0, slots := 0, locals := 95 }) D cI [.ref h, .int (zI ((p1 : Nat) : Int))] [cM h b ((pm : Nat) : Int) ((n : Nat) : Int) ((k : Nat) : Int) ((d : Nat) : Int) ((rr : Nat) : Int) ((hd : Nat) : Int) ((sm : Nat) : Int) kr kq ku s0 s1 s2 s3 s4 s5 hs, cR cI (b 1) 6 g0, cR cI (b 2) 6 g1, cR cI (b 7) 12 q7] (fun (u : (Nat → Int)) => ∀ j, j < n → u j = dT (mus n κ ν) k p1 (n - 1) j) (fun (u : (Nat → Int)) => [cM h b ((pm : Nat) : Int) ((n : Nat) : Int) ((k : Nat) : Int) ((d : Nat) : Int) ((rr : Nat) : Int) ((hd : Nat) : Int) ((sm : Nat) : Int) kr kq ku s0 s1 s2 s3 s4 s5 hs, cR cI (b 1) 6 g0, cR cI (b 2) 6 g1, cR cI (b 7) 12 u]) := by
  intro sz
  refine zstart rfl (by decide) (Nat.le_of_ble_eq_true rfl) ?_
  intro p e s m below meth c ls K hnm hsz hP hD hS hl
  generalize hargs : ([.ref h, .int (zI ((p1 : Nat) : Int))] : List Value).toArray = args at K ⊢
  generalize hQf : MQ below _ args s _ _ _ = Qf
  have K : zK p s m args meth c cX4_layFar 5 RX4 none D cI := K
  obtain ⟨hx, hb, hml, hown, hts, hE, -, -⟩ := id K
  have hA := zhA (ws0 := [cM h b ((pm : Nat) : Int) ((n : Nat) : Int) ((k : Nat) : Int) ((d : Nat) : Int) ((rr : Nat) : Int) ((hd : Nat) : Int) ((sm : Nat) : Int) kr kq ku s0 s1 s2 s3 s4 s5 hs, cR cI (b 1) 6 g0, cR cI (b 2) 6 g1, cR cI (b 7) 12 q7]) hsz
  have hl : lv_has ls 5 [(0, .ref h), (1, .int (zI ((p1 : Nat) : Int)))] := hl
  have hμ := mus_lt (k := k) hn.2 hκ hν
  have hμi := mus_inj (k := k) hn.2 hκ hν
  have hρ : ∀ j, j < n → rdc (mus n κ ν) k j < n := fun j hj => rdc_lt hμ (Nat.le_refl k) hj
  have hρi : inj (rdc (mus n κ ν) k) n := rdc_inj hμ hμi (Nat.le_refl k)
  refine lv_iconst (v := zI 0) hx hb dX4_layFar_0 rfl ?_
  refine lv_istore_n (lv' := [(2, .int (zI 0)), (0, .ref h), (1, .int (zI ((p1 : Nat) : Int)))]) hx hb dX4_layFar_1 rfl hl (by decide) rfl (fun ls hl => ?_)
  have cut_2 : ∀ (N_2 : Nat), ∀ (i : Nat) (q : Nat → Int), n - i < N_2 → (i ≤ n) → (∀ j, j < i → q j = dT (mus n κ ν) k p1 0 j) → ∀ (H : Heap) (locs : List Loc) (ls : Array Slot), va_P D cls [cM h b ((pm : Nat) : Int) ((n : Nat) : Int) ((k : Nat) : Int) ((d : Nat) : Int) ((rr : Nat) : Int) ((hd : Nat) : Int) ((sm : Nat) : Int) kr kq ku s0 s1 s2 s3 s4 s5 hs, cR cI (b 1) 6 g0, cR cI (b 2) 6 g1, cR cI (b 7) 12 q] H → va_D (va_A [cM h b ((pm : Nat) : Int) ((n : Nat) : Int) ((k : Nat) : Int) ((d : Nat) : Int) ((rr : Nat) : Int) ((hd : Nat) : Int) ((sm : Nat) : Int) kr kq ku s0 s1 s2 s3 s4 s5 hs, cR cI (b 1) 6 g0, cR cI (b 2) 6 g1, cR cI (b 7) 12 q7] sz) [cM h b ((pm : Nat) : Int) ((n : Nat) : Int) ((k : Nat) : Int) ((d : Nat) : Int) ((rr : Nat) : Int) ((hd : Nat) : Int) ((sm : Nat) : Int) kr kq ku s0 s1 s2 s3 s4 s5 hs, cR cI (b 1) 6 g0, cR cI (b 2) 6 g1, cR cI (b 7) 12 q] → va_S (va_A [cM h b ((pm : Nat) : Int) ((n : Nat) : Int) ((k : Nat) : Int) ((d : Nat) : Int) ((rr : Nat) : Int) ((hd : Nat) : Int) ((sm : Nat) : Int) kr kq ku s0 s1 s2 s3 s4 s5 hs, cR cI (b 1) 6 g0, cR cI (b 2) 6 g1, cR cI (b 7) 12 q7] sz) s.heap H locs → lv_has ls 5 [(0, .ref h), (1, .int (zI ((p1 : Nat) : Int))), (2, .int (zI ((i : Nat) : Int)))] → W p l e ({ frames := 4, cells := 0, slots := 0, locals := 95 }) s m args below meth c H locs 0 0 Qf (F0 m 2 ls []) := by
    intro N_2
    induction N_2 with
    | zero => intro i q hm_2; exact absurd hm_2 (Nat.not_lt_zero _)
    | succ N_2 ih_2 =>
      intro i q hm_2 hi hq H locs ls hP hD hS hl
      refine lv_iload_n hx hb dX4_layFar_2 rfl (lv_at hl 2 rfl) ?_
      refine lv_aload_n hx hb dX4_layFar_3 rfl (lv_at hl 0 rfl) ?_
      refine va_get (D := D) (ci := 4) (v := .int (zI ((n : Nat) : Int))) (C := RX4) (T := TX4) (N := 32) hx hb hts inT_X4 hown hE.1 hP 0 rfl rfl 2 (by decide) (hts _ qf_X4_86) (fun _ h9 => h9) rfl dX4_layFar_4 ?_
      refine z_icmp_ge (tgt := 32) hx hb (by omega) dX4_layFar_7 (by decide) (fun c_7 => ?_) (fun c_7 => ?_)
      · refine lv_iconst (v := zI 0) hx hb dX4_layFar_32 rfl ?_
        refine lv_istore_n (lv' := [(2, .int (zI 0)), (0, .ref h), (1, .int (zI ((p1 : Nat) : Int)))]) hx hb dX4_layFar_33 rfl hl (by decide) rfl (fun ls hl => ?_)
        have cut_34 : ∀ (N_34 : Nat), ∀ (d0 : Nat) (q1 : Nat → Int), n - d0 < N_34 → (d0 ≤ n) → (∀ j, j < n → q1 j = dT (mus n κ ν) k p1 d0 j) → ∀ (H : Heap) (locs : List Loc) (ls : Array Slot), va_P D cls [cM h b ((pm : Nat) : Int) ((n : Nat) : Int) ((k : Nat) : Int) ((d : Nat) : Int) ((rr : Nat) : Int) ((hd : Nat) : Int) ((sm : Nat) : Int) kr kq ku s0 s1 s2 s3 s4 s5 hs, cR cI (b 1) 6 g0, cR cI (b 2) 6 g1, cR cI (b 7) 12 q1] H → va_D (va_A [cM h b ((pm : Nat) : Int) ((n : Nat) : Int) ((k : Nat) : Int) ((d : Nat) : Int) ((rr : Nat) : Int) ((hd : Nat) : Int) ((sm : Nat) : Int) kr kq ku s0 s1 s2 s3 s4 s5 hs, cR cI (b 1) 6 g0, cR cI (b 2) 6 g1, cR cI (b 7) 12 q7] sz) [cM h b ((pm : Nat) : Int) ((n : Nat) : Int) ((k : Nat) : Int) ((d : Nat) : Int) ((rr : Nat) : Int) ((hd : Nat) : Int) ((sm : Nat) : Int) kr kq ku s0 s1 s2 s3 s4 s5 hs, cR cI (b 1) 6 g0, cR cI (b 2) 6 g1, cR cI (b 7) 12 q1] → va_S (va_A [cM h b ((pm : Nat) : Int) ((n : Nat) : Int) ((k : Nat) : Int) ((d : Nat) : Int) ((rr : Nat) : Int) ((hd : Nat) : Int) ((sm : Nat) : Int) kr kq ku s0 s1 s2 s3 s4 s5 hs, cR cI (b 1) 6 g0, cR cI (b 2) 6 g1, cR cI (b 7) 12 q7] sz) s.heap H locs → lv_has ls 5 [(0, .ref h), (1, .int (zI ((p1 : Nat) : Int))), (2, .int (zI ((d0 : Nat) : Int)))] → W p l e ({ frames := 4, cells := 0, slots := 0, locals := 95 }) s m args below meth c H locs 0 0 Qf (F0 m 34 ls []) := by
          intro N_34
          induction N_34 with
          | zero => intro d0 q1 hm_34; exact absurd hm_34 (Nat.not_lt_zero _)
          | succ N_34 ih_34 =>
            intro d0 q1 hm_34 hd0 hq1 H locs ls hP hD hS hl
            refine lv_iload_n hx hb dX4_layFar_34 rfl (lv_at hl 2 rfl) ?_
            refine lv_aload_n hx hb dX4_layFar_35 rfl (lv_at hl 0 rfl) ?_
            refine va_get (D := D) (ci := 4) (v := .int (zI ((n : Nat) : Int))) (C := RX4) (T := TX4) (N := 32) hx hb hts inT_X4 hown hE.1 hP 0 rfl rfl 2 (by decide) (hts _ qf_X4_86) (fun _ h9 => h9) rfl dX4_layFar_36 ?_
            refine z_icmp_ge (tgt := 119) hx hb (by omega) dX4_layFar_39 (by decide) (fun c_39 => ?_) (fun c_39 => ?_)
            · rw [← hQf]
              exact z_vret K hS (q1) (by intro j hj; rw [hq1 j hj, show d0 = n by omega]; exact dT_last (by omega) hμ hj) hP hD dX4_layFar_119
            · refine lv_iconst (v := zI 0) hx hb dX4_layFar_42 rfl ?_
              refine lv_istore_n (lv' := [(3, .int (zI 0)), (0, .ref h), (1, .int (zI ((p1 : Nat) : Int))), (2, .int (zI ((d0 : Nat) : Int)))]) hx hb dX4_layFar_43 rfl hl (by decide) rfl (fun ls hl => ?_)
              have cut_44 : ∀ (N_44 : Nat), ∀ (t1 : Nat) (q2 : Nat → Int), n * k - t1 < N_44 → (t1 ≤ n * k) → (∀ j, j < n → q2 j = pT (mus n κ ν) k p1 d0 j (min k (t1 - j * k))) → ∀ (H : Heap) (locs : List Loc) (ls : Array Slot), va_P D cls [cM h b ((pm : Nat) : Int) ((n : Nat) : Int) ((k : Nat) : Int) ((d : Nat) : Int) ((rr : Nat) : Int) ((hd : Nat) : Int) ((sm : Nat) : Int) kr kq ku s0 s1 s2 s3 s4 s5 hs, cR cI (b 1) 6 g0, cR cI (b 2) 6 g1, cR cI (b 7) 12 q2] H → va_D (va_A [cM h b ((pm : Nat) : Int) ((n : Nat) : Int) ((k : Nat) : Int) ((d : Nat) : Int) ((rr : Nat) : Int) ((hd : Nat) : Int) ((sm : Nat) : Int) kr kq ku s0 s1 s2 s3 s4 s5 hs, cR cI (b 1) 6 g0, cR cI (b 2) 6 g1, cR cI (b 7) 12 q7] sz) [cM h b ((pm : Nat) : Int) ((n : Nat) : Int) ((k : Nat) : Int) ((d : Nat) : Int) ((rr : Nat) : Int) ((hd : Nat) : Int) ((sm : Nat) : Int) kr kq ku s0 s1 s2 s3 s4 s5 hs, cR cI (b 1) 6 g0, cR cI (b 2) 6 g1, cR cI (b 7) 12 q2] → va_S (va_A [cM h b ((pm : Nat) : Int) ((n : Nat) : Int) ((k : Nat) : Int) ((d : Nat) : Int) ((rr : Nat) : Int) ((hd : Nat) : Int) ((sm : Nat) : Int) kr kq ku s0 s1 s2 s3 s4 s5 hs, cR cI (b 1) 6 g0, cR cI (b 2) 6 g1, cR cI (b 7) 12 q7] sz) s.heap H locs → lv_has ls 5 [(0, .ref h), (1, .int (zI ((p1 : Nat) : Int))), (2, .int (zI ((d0 : Nat) : Int))), (3, .int (zI ((t1 : Nat) : Int)))] → W p l e ({ frames := 4, cells := 0, slots := 0, locals := 95 }) s m args below meth c H locs 0 0 Qf (F0 m 44 ls []) := by
                intro N_44
                induction N_44 with
                | zero => intro t1 q2 hm_44; exact absurd hm_44 (Nat.not_lt_zero _)
                | succ N_44 ih_44 =>
                  intro t1 q2 hm_44 ht1 hq2 H locs ls hP hD hS hl
                  refine lv_iload_n hx hb dX4_layFar_44 rfl (lv_at hl 3 rfl) ?_
                  refine lv_aload_n hx hb dX4_layFar_45 rfl (lv_at hl 0 rfl) ?_
                  refine va_get (D := D) (ci := 4) (v := .int (zI ((n : Nat) : Int))) (C := RX4) (T := TX4) (N := 32) hx hb hts inT_X4 hown hE.1 hP 0 rfl rfl 2 (by decide) (hts _ qf_X4_86) (fun _ h9 => h9) rfl dX4_layFar_46 ?_
                  refine lv_aload_n hx hb dX4_layFar_49 rfl (lv_at hl 0 rfl) ?_
                  refine va_get (D := D) (ci := 4) (v := .int (zI ((k : Nat) : Int))) (C := RX4) (T := TX4) (N := 32) hx hb hts inT_X4 hown hE.1 hP 0 rfl rfl 3 (by decide) (hts _ qf_X4_89) (fun _ h9 => h9) rfl dX4_layFar_50 ?_
                  refine z_imul hx hb (((n * k) : Nat) : Int) (by first | omega | exact (Int.natCast_mul _ _).symm) dX4_layFar_53 ?_
                  refine z_icmp_ge (tgt := 113) hx hb (by have h9 : n * k ≤ 12 * 6 := Nat.mul_le_mul hn.2 hk; omega) dX4_layFar_54 (by decide) (fun c_54 => ?_) (fun c_54 => ?_)
                  · refine z_iinc (k := 2) (lv' := [(2, .int (zI (((d0 + 1) : Nat) : Int))), (0, .ref h), (1, .int (zI ((p1 : Nat) : Int))), (3, .int (zI ((t1 : Nat) : Int)))]) hx hb (((d0 + 1) : Nat) : Int) (by omega) dX4_layFar_113 hl rfl (by decide) rfl (fun ls hl => ?_)
                    refine lv_goto (tgt := 34) hx hb dX4_layFar_116 (by decide) ?_
                    exact ih_34 (d0 + 1) q2 (by omega) (by omega) (by intro j hj; rw [hq2 j hj, show t1 = n * k by omega, flat_end hj, pT_k]) _ _ _ hP hD hS (lv_sub hl [1, 2, 0] rfl)
                  · have hnk : n * k ≤ 12 * 6 := Nat.mul_le_mul hn.2 hk
                    have hp2 : t1 / k < n := div_lt_of (by omega)
                    have hs2k : t1 % k < k := Nat.mod_lt _ (by omega)
                    obtain ⟨P2, hP2⟩ : ∃ q, q = t1 / k := ⟨_, rfl⟩
                    obtain ⟨S2, hS2⟩ : ∃ q, q = t1 % k := ⟨_, rfl⟩
                    have hfl := flat_eq (t := t1) (show 0 < k by omega)
                    rw [← hP2] at hp2 hfl
                    rw [← hS2] at hs2k hfl
                    have hms := hμ S2 P2 hs2k hp2
                    have hqp : q2 P2 = pT (mus n κ ν) k p1 d0 P2 S2 := by rw [hq2 P2 hp2, hfl.1]
                    have hpr := pT_r (mus n κ ν) k p1 d0 P2 S2
                    have hqm : (q2 (mus n κ ν S2 P2) = (d0 : Int)) ↔ dT (mus n κ ν) k p1 d0 (mus n κ ν S2 P2) = (d0 : Int) := by rw [hq2 _ hms]; exact pT_d _ _ _ _ _ _
                    have hqr : -1 ≤ q2 (mus n κ ν S2 P2) ∧ q2 (mus n κ ν S2 P2) ≤ (d0 : Int) + 1 := by rw [hq2 _ hms]; exact pT_r _ _ _ _ _ _
                    have hst : ∀ (y : Int) (q9 : Nat → Int), (y = pT (mus n κ ν) k p1 d0 P2 (S2 + 1)) → (∀ j, j < n → q9 j = if j = P2 then y else q2 j) → ∀ j, j < n → q9 j = pT (mus n κ ν) k p1 d0 j (min k (t1 + 1 - j * k)) := by
                      intro y q9 hy h9 j hj
                      rw [h9 j hj]
                      by_cases h8 : j = P2
                      · rw [if_pos h8, hy, h8, hfl.2]
                      · rw [if_neg h8, hq2 j hj, flat_ne (by omega) (by rw [← hP2]; exact h8)]
                    refine lv_iload_n hx hb dX4_layFar_57 rfl (lv_at hl 3 rfl) ?_
                    refine lv_aload_n hx hb dX4_layFar_58 rfl (lv_at hl 0 rfl) ?_
                    refine va_get (D := D) (ci := 4) (v := .int (zI ((k : Nat) : Int))) (C := RX4) (T := TX4) (N := 32) hx hb hts inT_X4 hown hE.1 hP 0 rfl rfl 3 (by decide) (hts _ qf_X4_89) (fun _ h9 => h9) rfl dX4_layFar_59 ?_
                    refine z_idiv hx hb ((P2 : Nat) : Int) (by omega) (by rw [hP2]; rfl) dX4_layFar_62 ?_
                    refine lv_istore (lv' := [(4, .int (zI ((P2 : Nat) : Int))), (0, .ref h), (1, .int (zI ((p1 : Nat) : Int))), (2, .int (zI ((d0 : Nat) : Int))), (3, .int (zI ((t1 : Nat) : Int)))]) hx hb dX4_layFar_63 hl (by decide) rfl (fun ls hl => ?_)
                    refine lv_aload_n hx hb dX4_layFar_65 rfl (lv_at hl 1 rfl) ?_
                    refine va_get (D := D) (ci := 4) (v := .ref (b 7)) (C := RX4) (T := TX4) (N := 32) hx hb hts inT_X4 hown hE.1 hP 0 rfl rfl 16 (by decide) (hts _ qf_X4_31) (fun _ h9 => h9) rfl dX4_layFar_66 ?_
                    refine lv_iload hx hb dX4_layFar_69 (lv_at hl 0 rfl) ?_
                    refine z_iald hx hb hE hP 3 rfl P2 (by omega) (by omega) (by first | decide | omega) (pT (mus n κ ν) k p1 d0 P2 S2) hqp dX4_layFar_71 ?_
                    refine lv_iconst (v := zI (-1)) hx hb dX4_layFar_72 rfl ?_
                    refine z_icmp_ne (tgt := 107) hx hb (by omega) dX4_layFar_73 (by decide) (fun c_73 => ?_) (fun c_73 => ?_)
                    · have hs1 := hst (q2 P2) q2 (by rw [pT_f (Or.inl (by omega))]; exact hqp) (fun j hj => by split; rename_i h9; rw [h9]; rfl)
                      refine z_iinc (k := 4) (lv' := [(3, .int (zI (((t1 + 1) : Nat) : Int))), (4, .int (zI ((P2 : Nat) : Int))), (0, .ref h), (1, .int (zI ((p1 : Nat) : Int))), (2, .int (zI ((d0 : Nat) : Int)))]) hx hb (((t1 + 1) : Nat) : Int) (by omega) dX4_layFar_107 hl rfl (by decide) rfl (fun ls hl => ?_)
                      refine lv_goto (tgt := 44) hx hb dX4_layFar_110 (by decide) ?_
                      exact ih_44 (t1 + 1) q2 (by omega) (by omega) (by first | exact hs1 | exact hs2 | exact hs3) _ _ _ hP hD hS (lv_sub hl [2, 3, 4, 0] rfl)
                    · refine lv_aload_n hx hb dX4_layFar_76 rfl (lv_at hl 1 rfl) ?_
                      refine va_get (D := D) (ci := 4) (v := .ref (b 7)) (C := RX4) (T := TX4) (N := 32) hx hb hts inT_X4 hown hE.1 hP 0 rfl rfl 16 (by decide) (hts _ qf_X4_31) (fun _ h9 => h9) rfl dX4_layFar_77 ?_
                      refine lv_aload_n hx hb dX4_layFar_80 rfl (lv_at hl 1 rfl) ?_
                      refine lv_iload_n hx hb dX4_layFar_81 rfl (lv_at hl 4 rfl) ?_
                      refine lv_aload_n hx hb dX4_layFar_82 rfl (lv_at hl 1 rfl) ?_
                      refine va_get (D := D) (ci := 4) (v := .int (zI ((k : Nat) : Int))) (C := RX4) (T := TX4) (N := 32) hx hb hts inT_X4 hown hE.1 hP 0 rfl rfl 3 (by decide) (hts _ qf_X4_89) (fun _ h9 => h9) rfl dX4_layFar_83 ?_
                      refine z_irem hx hb ((S2 : Nat) : Int) (by omega) (by rw [hS2]; rfl) dX4_layFar_86 ?_
                      refine lv_iload hx hb dX4_layFar_87 (lv_at hl 0 rfl) ?_
                      refine zcall_i (wc := [cM h b ((pm : Nat) : Int) ((n : Nat) : Int) ((k : Nat) : Int) ((d : Nat) : Int) ((rr : Nat) : Int) ((hd : Nat) : Int) ((sm : Nat) : Int) kr kq ku s0 s1 s2 s3 s4 s5 hs, cR cI (b 1) 6 g0, cR cI (b 2) 6 g1]) (wr := [cR cI (b 7) 12 q2]) (rest := [.ref (b 7)]) hE hP hD hS hA [0, 1, 2] [3] [1, 2, 3, 0] rfl rfl (by decide) (by decide) (by decide) (fun (u : Unit) => [cM h b ((pm : Nat) : Int) ((n : Nat) : Int) ((k : Nat) : Int) ((d : Nat) : Int) ((rr : Nat) : Int) ((hd : Nat) : Int) ((sm : Nat) : Int) kr kq ku s0 s1 s2 s3 s4 s5 hs, cR cI (b 1) 6 g0, cR cI (b 2) 6 g1, cR cI (b 7) 12 q2]) (fun u => rfl) (fun hPc hDc => zrunV (As := [.int (zI ((S2 : Nat) : Int)), .int (zI ((P2 : Nat) : Int))]) (rest := [.ref (b 7)]) (q0 := 0) (ci := 4) K k_X4_goesOf qm_X4_128 ⟨⟨rfl, rfl⟩, ⟨Nat.le_of_ble_eq_true rfl, Nat.le_of_ble_eq_true rfl⟩⟩ rfl rfl hPc hDc (c_X4_goesOf l D cI h b pm n k d rr hd sm kr kq ku s0 s1 s2 s3 s4 s5 hs g0 g1 κ ν S2 P2 (by first | assumption | omega) (by first | assumption | omega) (by first | assumption | omega) (by first | assumption | omega) (by first | assumption | omega) (by first | assumption | omega) (by first | assumption | omega) (by first | assumption | omega) _) rfl hl.1 rfl (Nat.le_of_ble_eq_true rfl) dX4_layFar_89 ⟨Nat.zero_le _, Nat.zero_le _⟩) (by decide) (fun z u H locs hpost hP hD hS => ?_)
                      subst hpost
                      have hP : va_P D cls [cM h b ((pm : Nat) : Int) ((n : Nat) : Int) ((k : Nat) : Int) ((d : Nat) : Int) ((rr : Nat) : Int) ((hd : Nat) : Int) ((sm : Nat) : Int) kr kq ku s0 s1 s2 s3 s4 s5 hs, cR cI (b 1) 6 g0, cR cI (b 2) 6 g1, cR cI (b 7) 12 q2] H := hP
                      have hD : va_D (va_A [cM h b ((pm : Nat) : Int) ((n : Nat) : Int) ((k : Nat) : Int) ((d : Nat) : Int) ((rr : Nat) : Int) ((hd : Nat) : Int) ((sm : Nat) : Int) kr kq ku s0 s1 s2 s3 s4 s5 hs, cR cI (b 1) 6 g0, cR cI (b 2) 6 g1, cR cI (b 7) 12 q7] sz) [cM h b ((pm : Nat) : Int) ((n : Nat) : Int) ((k : Nat) : Int) ((d : Nat) : Int) ((rr : Nat) : Int) ((hd : Nat) : Int) ((sm : Nat) : Int) kr kq ku s0 s1 s2 s3 s4 s5 hs, cR cI (b 1) 6 g0, cR cI (b 2) 6 g1, cR cI (b 7) 12 q2] := hD
                      refine W.eq (g2 := F0 m 92 ls [.int (zI (((mus n κ ν S2 P2) : Nat) : Int)), .ref (b 7)]) rfl ?_
                      refine z_iald hx hb hE hP 3 rfl (mus n κ ν S2 P2) (by omega) (by omega) (by first | decide | omega) (q2 (mus n κ ν S2 P2)) rfl dX4_layFar_92 ?_
                      refine lv_iload_n hx hb dX4_layFar_93 rfl (lv_at hl 3 rfl) ?_
                      refine z_icmp_ne (tgt := 107) hx hb (by omega) dX4_layFar_94 (by decide) (fun c_94 => ?_) (fun c_94 => ?_)
                      · have hs2 := hst (q2 P2) q2 (by rw [pT_f (Or.inr (fun h9 => c_94 (hqm.mpr h9)))]; exact hqp) (fun j hj => by split; rename_i h9; rw [h9]; rfl)
                        refine z_iinc (k := 4) (lv' := [(3, .int (zI (((t1 + 1) : Nat) : Int))), (4, .int (zI ((P2 : Nat) : Int))), (0, .ref h), (1, .int (zI ((p1 : Nat) : Int))), (2, .int (zI ((d0 : Nat) : Int)))]) hx hb (((t1 + 1) : Nat) : Int) (by omega) dX4_layFar_107 hl rfl (by decide) rfl (fun ls hl => ?_)
                        refine lv_goto (tgt := 44) hx hb dX4_layFar_110 (by decide) ?_
                        exact ih_44 (t1 + 1) q2 (by omega) (by omega) (by first | exact hs1 | exact hs2 | exact hs3) _ _ _ hP hD hS (lv_sub hl [2, 3, 4, 0] rfl)
                      · have hs3 := hst ((d0 + 1 : Nat) : Int) (zup q2 P2 ((d0 + 1 : Nat) : Int)) (by rw [pT_t (by omega) (hqm.mp c_94)]; omega) (fun j hj => by unfold zup; rfl)
                        refine lv_aload_n hx hb dX4_layFar_97 rfl (lv_at hl 1 rfl) ?_
                        refine va_get (D := D) (ci := 4) (v := .ref (b 7)) (C := RX4) (T := TX4) (N := 32) hx hb hts inT_X4 hown hE.1 hP 0 rfl rfl 16 (by decide) (hts _ qf_X4_31) (fun _ h9 => h9) rfl dX4_layFar_98 ?_
                        refine lv_iload hx hb dX4_layFar_101 (lv_at hl 0 rfl) ?_
                        refine lv_iload_n hx hb dX4_layFar_103 rfl (lv_at hl 3 rfl) ?_
                        refine lv_iconst (v := zI 1) hx hb dX4_layFar_104 rfl ?_
                        refine z_iadd hx hb (((d0 + 1) : Nat) : Int) (by omega) dX4_layFar_105 ?_
                        refine z_iast hx hb hE hP hD hS 3 rfl P2 (by omega) (by omega) (by first | decide | omega) (zup q2 P2 (((d0 + 1) : Nat) : Int)) rfl dX4_layFar_106 (fun H locs hP hD hS => ?_)
                        have hP : va_P D cls [cM h b ((pm : Nat) : Int) ((n : Nat) : Int) ((k : Nat) : Int) ((d : Nat) : Int) ((rr : Nat) : Int) ((hd : Nat) : Int) ((sm : Nat) : Int) kr kq ku s0 s1 s2 s3 s4 s5 hs, cR cI (b 1) 6 g0, cR cI (b 2) 6 g1, cR cI (b 7) 12 (zup q2 P2 (((d0 + 1) : Nat) : Int))] H := hP
                        have hD : va_D (va_A [cM h b ((pm : Nat) : Int) ((n : Nat) : Int) ((k : Nat) : Int) ((d : Nat) : Int) ((rr : Nat) : Int) ((hd : Nat) : Int) ((sm : Nat) : Int) kr kq ku s0 s1 s2 s3 s4 s5 hs, cR cI (b 1) 6 g0, cR cI (b 2) 6 g1, cR cI (b 7) 12 q7] sz) [cM h b ((pm : Nat) : Int) ((n : Nat) : Int) ((k : Nat) : Int) ((d : Nat) : Int) ((rr : Nat) : Int) ((hd : Nat) : Int) ((sm : Nat) : Int) kr kq ku s0 s1 s2 s3 s4 s5 hs, cR cI (b 1) 6 g0, cR cI (b 2) 6 g1, cR cI (b 7) 12 (zup q2 P2 (((d0 + 1) : Nat) : Int))] := hD
                        refine z_iinc (k := 4) (lv' := [(3, .int (zI (((t1 + 1) : Nat) : Int))), (4, .int (zI ((P2 : Nat) : Int))), (0, .ref h), (1, .int (zI ((p1 : Nat) : Int))), (2, .int (zI ((d0 : Nat) : Int)))]) hx hb (((t1 + 1) : Nat) : Int) (by omega) dX4_layFar_107 hl rfl (by decide) rfl (fun ls hl => ?_)
                        refine lv_goto (tgt := 44) hx hb dX4_layFar_110 (by decide) ?_
                        exact ih_44 (t1 + 1) (zup q2 P2 (((d0 + 1) : Nat) : Int)) (by omega) (by omega) (by first | exact hs1 | exact hs2 | exact hs3) _ _ _ hP hD hS (lv_sub hl [2, 3, 4, 0] rfl)
              exact cut_44 (n * k - 0 + 1) 0 q1 (Nat.lt_succ_self _) (by omega) (by intro j hj; rw [Nat.zero_sub, Nat.min_zero, pT_0]; exact hq1 j hj) _ _ _ hP hD hS (lv_sub hl [1, 2, 3, 0] rfl)
        exact cut_34 (n - 0 + 1) 0 q (Nat.lt_succ_self _) (by omega) (by intro j hj; exact hq j (by omega)) _ _ _ hP hD hS (lv_sub hl [1, 2, 0] rfl)
      · refine lv_aload_n hx hb dX4_layFar_10 rfl (lv_at hl 0 rfl) ?_
        refine va_get (D := D) (ci := 4) (v := .ref (b 7)) (C := RX4) (T := TX4) (N := 32) hx hb hts inT_X4 hown hE.1 hP 0 rfl rfl 16 (by decide) (hts _ qf_X4_31) (fun _ h9 => h9) rfl dX4_layFar_11 ?_
        refine lv_iload_n hx hb dX4_layFar_14 rfl (lv_at hl 2 rfl) ?_
        refine lv_iload_n hx hb dX4_layFar_15 rfl (lv_at hl 2 rfl) ?_
        refine lv_iload_n hx hb dX4_layFar_16 rfl (lv_at hl 1 rfl) ?_
        refine z_icmp_ne (tgt := 24) hx hb (by omega) dX4_layFar_17 (by decide) (fun c_17 => ?_) (fun c_17 => ?_)
        · have hv2 : (-1 : Int) = dT (mus n κ ν) k p1 0 i := by rw [dT, if_neg (by omega)]
          refine lv_iconst (v := zI (-1)) hx hb dX4_layFar_24 rfl ?_
          refine z_iast hx hb hE hP hD hS 3 rfl i (by omega) (by omega) (by first | decide | omega) (zup q i (-1)) rfl dX4_layFar_25 (fun H locs hP hD hS => ?_)
          have hP : va_P D cls [cM h b ((pm : Nat) : Int) ((n : Nat) : Int) ((k : Nat) : Int) ((d : Nat) : Int) ((rr : Nat) : Int) ((hd : Nat) : Int) ((sm : Nat) : Int) kr kq ku s0 s1 s2 s3 s4 s5 hs, cR cI (b 1) 6 g0, cR cI (b 2) 6 g1, cR cI (b 7) 12 (zup q i (-1))] H := hP
          have hD : va_D (va_A [cM h b ((pm : Nat) : Int) ((n : Nat) : Int) ((k : Nat) : Int) ((d : Nat) : Int) ((rr : Nat) : Int) ((hd : Nat) : Int) ((sm : Nat) : Int) kr kq ku s0 s1 s2 s3 s4 s5 hs, cR cI (b 1) 6 g0, cR cI (b 2) 6 g1, cR cI (b 7) 12 q7] sz) [cM h b ((pm : Nat) : Int) ((n : Nat) : Int) ((k : Nat) : Int) ((d : Nat) : Int) ((rr : Nat) : Int) ((hd : Nat) : Int) ((sm : Nat) : Int) kr kq ku s0 s1 s2 s3 s4 s5 hs, cR cI (b 1) 6 g0, cR cI (b 2) 6 g1, cR cI (b 7) 12 (zup q i (-1))] := hD
          refine z_iinc (k := 2) (lv' := [(2, .int (zI (((i + 1) : Nat) : Int))), (0, .ref h), (1, .int (zI ((p1 : Nat) : Int)))]) hx hb (((i + 1) : Nat) : Int) (by omega) dX4_layFar_26 hl rfl (by decide) rfl (fun ls hl => ?_)
          refine lv_goto (tgt := 2) hx hb dX4_layFar_29 (by decide) ?_
          exact ih_2 (i + 1) (zup q i (-1)) (by omega) (by omega) (by first | exact zup_lt (A := fun j => dT (mus n κ ν) k p1 0 j) hq hv1 | exact zup_lt (A := fun j => dT (mus n κ ν) k p1 0 j) hq hv2) _ _ _ hP hD hS (lv_sub hl [1, 2, 0] rfl)
        · have hv1 : (0 : Int) = dT (mus n κ ν) k p1 0 i := by rw [dT, if_pos (by omega)]
          refine lv_iconst (v := zI 0) hx hb dX4_layFar_20 rfl ?_
          refine lv_goto (tgt := 25) hx hb dX4_layFar_21 (by decide) ?_
          refine z_iast hx hb hE hP hD hS 3 rfl i (by omega) (by omega) (by first | decide | omega) (zup q i 0) rfl dX4_layFar_25 (fun H locs hP hD hS => ?_)
          have hP : va_P D cls [cM h b ((pm : Nat) : Int) ((n : Nat) : Int) ((k : Nat) : Int) ((d : Nat) : Int) ((rr : Nat) : Int) ((hd : Nat) : Int) ((sm : Nat) : Int) kr kq ku s0 s1 s2 s3 s4 s5 hs, cR cI (b 1) 6 g0, cR cI (b 2) 6 g1, cR cI (b 7) 12 (zup q i 0)] H := hP
          have hD : va_D (va_A [cM h b ((pm : Nat) : Int) ((n : Nat) : Int) ((k : Nat) : Int) ((d : Nat) : Int) ((rr : Nat) : Int) ((hd : Nat) : Int) ((sm : Nat) : Int) kr kq ku s0 s1 s2 s3 s4 s5 hs, cR cI (b 1) 6 g0, cR cI (b 2) 6 g1, cR cI (b 7) 12 q7] sz) [cM h b ((pm : Nat) : Int) ((n : Nat) : Int) ((k : Nat) : Int) ((d : Nat) : Int) ((rr : Nat) : Int) ((hd : Nat) : Int) ((sm : Nat) : Int) kr kq ku s0 s1 s2 s3 s4 s5 hs, cR cI (b 1) 6 g0, cR cI (b 2) 6 g1, cR cI (b 7) 12 (zup q i 0)] := hD
          refine z_iinc (k := 2) (lv' := [(2, .int (zI (((i + 1) : Nat) : Int))), (0, .ref h), (1, .int (zI ((p1 : Nat) : Int)))]) hx hb (((i + 1) : Nat) : Int) (by omega) dX4_layFar_26 hl rfl (by decide) rfl (fun ls hl => ?_)
          refine lv_goto (tgt := 2) hx hb dX4_layFar_29 (by decide) ?_
          exact ih_2 (i + 1) (zup q i 0) (by omega) (by omega) (by first | exact zup_lt (A := fun j => dT (mus n κ ν) k p1 0 j) hq hv1 | exact zup_lt (A := fun j => dT (mus n κ ν) k p1 0 j) hq hv2) _ _ _ hP hD hS (lv_sub hl [1, 2, 0] rfl)
  exact cut_2 (n - 0 + 1) 0 q7 (Nat.lt_succ_self _) (by omega) (by intro j hj; omega) _ _ _ hP hD hS (lv_sub hl [1, 2, 0] rfl)
