theorem LInv_up {n k d v pl rr hc : Nat} {κ ν π ss sf st lt : Nat → Nat} {gl g0 g1 g2 g3 g4 g5 g6 f0 f1 f2 f3 f4 f5 f6 ml m0 m1 m3 mq e0 e1 e3 e4 : Nat → Int} {ik kn kk kd kv kr kq ku : Int} {i j : Nat} (hij : i ≤ j) (h : LInv n k d v pl rr hc κ ν π ss sf st lt gl g0 g1 g2 g3 g4 g5 g6 f0 f1 f2 f3 f4 f5 f6 ml m0 m1 m3 mq e0 e1 e3 e4 ik kn kk kd kv kr kq ku i) : LInv n k d v pl rr hc κ ν π ss sf st lt gl g0 g1 g2 g3 g4 g5 g6 f0 f1 f2 f3 f4 f5 f6 ml m0 m1 m3 mq e0 e1 e3 e4 ik kn kk kd kv kr kq ku j := by
  obtain ⟨h1, h2, h3, h4, ⟨h5, h6, h7, h8⟩, h9⟩ := h
  exact ⟨h1, h2, h3, h4, ⟨by omega, h6, h7, h8⟩, h9⟩
set_option maxHeartbeats 8000000 in
set_option maxRecDepth 100000 in
theorem law_loop (l : Launch) {p : Program} {e : Env} {s : State} {m : MethodId} {below : List Frame} {meth : Method} {c : Code} {D : va_G} {cI : ClassId} {sK sV : Nat} {bs L : Nat} {xs : Nat → Int32} {x h : Nat} {b aN aJ bm : Nat → Nat} {lp wa : Nat} (K : zK p s m #[Value.ref bs] meth c cL_law 4 RL ret D cI) (hX : zS sK sV (fun q : Nat => s.heap.size ≤ q) s s.heap) (hV : va_X bs L xs s s.heap) (hbl : bs < s.heap.size) (hL : L ≤ 2560) : ∀ (N i : Nat) (n k d v pl rr hc : Nat) (κ ν π ss sf st lt : Nat → Nat) (gl g0 g1 g2 g3 g4 g5 g6 f0 f1 f2 f3 f4 f5 f6 ml m0 m1 m3 mq e0 e1 e3 e4 gw gt gs gp mr mt mb mf mw mu : Nat → Int) (ik kn kk kd kv kr kq ku w0 s0 s1 s2 s3 s4 s5 hs : Int), L + 1 - i < N → i ≤ L → LInv n k d v pl rr hc κ ν π ss sf st lt gl g0 g1 g2 g3 g4 g5 g6 f0 f1 f2 f3 f4 f5 f6 ml m0 m1 m3 mq e0 e1 e3 e4 ik kn kk kd kv kr kq ku i → ∀ (H : Heap) (locs : List Loc) (ls : Array Slot), va_P D cls [cX x b ik ((rr : Nat) : Int) ((hc : Nat) : Int), cP (b 0) lp ((pl : Nat) : Int), cR cI lp 22 gl, cT (b 1) aN ((n : Nat) : Int) ((k : Nat) : Int) ((d : Nat) : Int) ((v : Nat) : Int), cR cI (aN 0) 6 g0, cR cI (aN 1) 6 g1, cR cI (aN 2) 72 g2, cR cI (aN 3) 12 g3, cR cI (aN 4) 6 g4, cR cI (aN 5) 6 g5, cR cI (aN 6) 6 g6, cT (b 2) aJ kn kk kd kv, cR cI (aJ 0) 6 f0, cR cI (aJ 1) 6 f1, cR cI (aJ 2) 72 f2, cR cI (aJ 3) 12 f3, cR cI (aJ 4) 6 f4, cR cI (aJ 5) 6 f5, cR cI (aJ 6) 6 f6, cW (b 3) wa w0, cR cI wa 12 gw, cR cI (b 4) 12 gt, cR cI (b 5) 12 gs, cR cI (b 6) 4 gp, cM h bm ((pl : Nat) : Int) ((n : Nat) : Int) ((k : Nat) : Int) ((d : Nat) : Int) ((rr : Nat) : Int) ((hc : Nat) : Int) ((v : Nat) : Int) kr kq ku s0 s1 s2 s3 s4 s5 hs, cR cI (bm 0) 22 ml, cR cI (bm 1) 6 m0, cR cI (bm 2) 6 m1, cR cI (bm 3) 12 m3, cR cI (bm 4) 12 mr, cR cI (bm 5) 12 mt, cR cI (bm 6) 12 mb, cR cI (bm 7) 12 mf, cR cI (bm 8) 12 mw, cR cI (bm 9) 12 mu, cR cI (bm 10) 18 mq, cR cI (bm 11) 6 e0, cR cI (bm 12) 6 e1, cR cI (bm 13) 12 e3, cR cI (bm 14) 18 e4] H → va_D (fun q : Nat => s.heap.size ≤ q) [cX x b ik ((rr : Nat) : Int) ((hc : Nat) : Int), cP (b 0) lp ((pl : Nat) : Int), cR cI lp 22 gl, cT (b 1) aN ((n : Nat) : Int) ((k : Nat) : Int) ((d : Nat) : Int) ((v : Nat) : Int), cR cI (aN 0) 6 g0, cR cI (aN 1) 6 g1, cR cI (aN 2) 72 g2, cR cI (aN 3) 12 g3, cR cI (aN 4) 6 g4, cR cI (aN 5) 6 g5, cR cI (aN 6) 6 g6, cT (b 2) aJ kn kk kd kv, cR cI (aJ 0) 6 f0, cR cI (aJ 1) 6 f1, cR cI (aJ 2) 72 f2, cR cI (aJ 3) 12 f3, cR cI (aJ 4) 6 f4, cR cI (aJ 5) 6 f5, cR cI (aJ 6) 6 f6, cW (b 3) wa w0, cR cI wa 12 gw, cR cI (b 4) 12 gt, cR cI (b 5) 12 gs, cR cI (b 6) 4 gp, cM h bm ((pl : Nat) : Int) ((n : Nat) : Int) ((k : Nat) : Int) ((d : Nat) : Int) ((rr : Nat) : Int) ((hc : Nat) : Int) ((v : Nat) : Int) kr kq ku s0 s1 s2 s3 s4 s5 hs, cR cI (bm 0) 22 ml, cR cI (bm 1) 6 m0, cR cI (bm 2) 6 m1, cR cI (bm 3) 12 m3, cR cI (bm 4) 12 mr, cR cI (bm 5) 12 mt, cR cI (bm 6) 12 mb, cR cI (bm 7) 12 mf, cR cI (bm 8) 12 mw, cR cI (bm 9) 12 mu, cR cI (bm 10) 18 mq, cR cI (bm 11) 6 e0, cR cI (bm 12) 6 e1, cR cI (bm 13) 12 e3, cR cI (bm 14) 18 e4] → va_S (fun q : Nat => s.heap.size ≤ q) s.heap H locs → lv_has ls 4 [(0, .ref bs), (1, .ref x), (2, .ref h), (3, .int (zI ((i : Nat) : Int)))] → W p l e room_1 s m #[Value.ref bs] below meth c H locs 40 536 (lw_Z below #[Value.ref bs] s) (F0 m 18 ls []) := by
  intro N
  induction N with
  | zero => intro i n k d v pl rr hc κ ν π ss sf st lt gl g0 g1 g2 g3 g4 g5 g6 f0 f1 f2 f3 f4 f5 f6 ml m0 m1 m3 mq e0 e1 e3 e4 gw gt gs gp mr mt mb mf mw mu ik kn kk kd kv kr kq ku w0 s0 s1 s2 s3 s4 s5 hs hm; exact absurd hm (Nat.not_lt_zero _)
  | succ N ih =>
    intro i n k d v pl rr hc κ ν π ss sf st lt gl g0 g1 g2 g3 g4 g5 g6 f0 f1 f2 f3 f4 f5 f6 ml m0 m1 m3 mq e0 e1 e3 e4 gw gt gs gp mr mt mb mf mw mu ik kn kk kd kv kr kq ku w0 s0 s1 s2 s3 s4 s5 hs hm hiL hinv H locs ls hP hD hS hl
    have hbA : ¬ (fun q : Nat => s.heap.size ≤ q) bs := Nat.not_le.mpr hbl
    obtain ⟨hx, hb, hml, hown, hts, hE, hret, hlocks⟩ := id K
    refine lv_iload_n hx hb dL_law_18 rfl (lv_at hl 3 rfl) ?_
    refine lv_aload_n hx hb dL_law_19 rfl (lv_at hl 0 rfl) ?_
    refine z_slen hx hb hV hbl hbA hS dL_law_20 ?_
    refine lv_iconst (v := zI 5) hx hb dL_law_21 rfl ?_
    refine z_isub hx hb ((L : Int) - 5) rfl dL_law_22 ?_
    refine z_icmp_gt (tgt := 827) hx hb (by omega) dL_law_23 (by decide) (fun c_23 => ?_) (fun c_23 => ?_)
    · refine lv_iconst (v := 1) hx hb dL_law_827 rfl ?_
      refine va_forget (fun q hq => hS.2.2 q hq) ?_
      exact lw_ret hx hb hret hlocks dL_law_828
    · have hi : i + 5 ≤ L := by omega
      have cut_821 : ∀ (n k d v pl rr hc : Nat) (κ ν π ss sf st lt : Nat → Nat) (gl g0 g1 g2 g3 g4 g5 g6 f0 f1 f2 f3 f4 f5 f6 ml m0 m1 m3 mq e0 e1 e3 e4 gw gt gs gp mr mt mb mf mw mu : Nat → Int) (ik kn kk kd kv kr kq ku w0 s0 s1 s2 s3 s4 s5 hs : Int), LInv n k d v pl rr hc κ ν π ss sf st lt gl g0 g1 g2 g3 g4 g5 g6 f0 f1 f2 f3 f4 f5 f6 ml m0 m1 m3 mq e0 e1 e3 e4 ik kn kk kd kv kr kq ku (i + 5) → ∀ (H : Heap) (locs : List Loc) (ls : Array Slot), va_P D cls [cX x b ik ((rr : Nat) : Int) ((hc : Nat) : Int), cP (b 0) lp ((pl : Nat) : Int), cR cI lp 22 gl, cT (b 1) aN ((n : Nat) : Int) ((k : Nat) : Int) ((d : Nat) : Int) ((v : Nat) : Int), cR cI (aN 0) 6 g0, cR cI (aN 1) 6 g1, cR cI (aN 2) 72 g2, cR cI (aN 3) 12 g3, cR cI (aN 4) 6 g4, cR cI (aN 5) 6 g5, cR cI (aN 6) 6 g6, cT (b 2) aJ kn kk kd kv, cR cI (aJ 0) 6 f0, cR cI (aJ 1) 6 f1, cR cI (aJ 2) 72 f2, cR cI (aJ 3) 12 f3, cR cI (aJ 4) 6 f4, cR cI (aJ 5) 6 f5, cR cI (aJ 6) 6 f6, cW (b 3) wa w0, cR cI wa 12 gw, cR cI (b 4) 12 gt, cR cI (b 5) 12 gs, cR cI (b 6) 4 gp, cM h bm ((pl : Nat) : Int) ((n : Nat) : Int) ((k : Nat) : Int) ((d : Nat) : Int) ((rr : Nat) : Int) ((hc : Nat) : Int) ((v : Nat) : Int) kr kq ku s0 s1 s2 s3 s4 s5 hs, cR cI (bm 0) 22 ml, cR cI (bm 1) 6 m0, cR cI (bm 2) 6 m1, cR cI (bm 3) 12 m3, cR cI (bm 4) 12 mr, cR cI (bm 5) 12 mt, cR cI (bm 6) 12 mb, cR cI (bm 7) 12 mf, cR cI (bm 8) 12 mw, cR cI (bm 9) 12 mu, cR cI (bm 10) 18 mq, cR cI (bm 11) 6 e0, cR cI (bm 12) 6 e1, cR cI (bm 13) 12 e3, cR cI (bm 14) 18 e4] H → va_D (fun q : Nat => s.heap.size ≤ q) [cX x b ik ((rr : Nat) : Int) ((hc : Nat) : Int), cP (b 0) lp ((pl : Nat) : Int), cR cI lp 22 gl, cT (b 1) aN ((n : Nat) : Int) ((k : Nat) : Int) ((d : Nat) : Int) ((v : Nat) : Int), cR cI (aN 0) 6 g0, cR cI (aN 1) 6 g1, cR cI (aN 2) 72 g2, cR cI (aN 3) 12 g3, cR cI (aN 4) 6 g4, cR cI (aN 5) 6 g5, cR cI (aN 6) 6 g6, cT (b 2) aJ kn kk kd kv, cR cI (aJ 0) 6 f0, cR cI (aJ 1) 6 f1, cR cI (aJ 2) 72 f2, cR cI (aJ 3) 12 f3, cR cI (aJ 4) 6 f4, cR cI (aJ 5) 6 f5, cR cI (aJ 6) 6 f6, cW (b 3) wa w0, cR cI wa 12 gw, cR cI (b 4) 12 gt, cR cI (b 5) 12 gs, cR cI (b 6) 4 gp, cM h bm ((pl : Nat) : Int) ((n : Nat) : Int) ((k : Nat) : Int) ((d : Nat) : Int) ((rr : Nat) : Int) ((hc : Nat) : Int) ((v : Nat) : Int) kr kq ku s0 s1 s2 s3 s4 s5 hs, cR cI (bm 0) 22 ml, cR cI (bm 1) 6 m0, cR cI (bm 2) 6 m1, cR cI (bm 3) 12 m3, cR cI (bm 4) 12 mr, cR cI (bm 5) 12 mt, cR cI (bm 6) 12 mb, cR cI (bm 7) 12 mf, cR cI (bm 8) 12 mw, cR cI (bm 9) 12 mu, cR cI (bm 10) 18 mq, cR cI (bm 11) 6 e0, cR cI (bm 12) 6 e1, cR cI (bm 13) 12 e3, cR cI (bm 14) 18 e4] → va_S (fun q : Nat => s.heap.size ≤ q) s.heap H locs → lv_has ls 4 [(0, .ref bs), (1, .ref x), (2, .ref h), (3, .int (zI ((i : Nat) : Int)))] → W p l e room_1 s m #[Value.ref bs] below meth c H locs 40 536 (lw_Z below #[Value.ref bs] s) (F0 m 821 ls []) := by
        intro n k d v pl rr hc κ ν π ss sf st lt gl g0 g1 g2 g3 g4 g5 g6 f0 f1 f2 f3 f4 f5 f6 ml m0 m1 m3 mq e0 e1 e3 e4 gw gt gs gp mr mt mb mf mw mu ik kn kk kd kv kr kq ku w0 s0 s1 s2 s3 s4 s5 hs hinv H locs ls hP hD hS hl
        refine z_iinc (k := 3) (lv' := [(3, .int (zI ((i + 5 : Nat) : Int))), (0, .ref bs), (1, .ref x), (2, .ref h)]) hx hb ((i + 5 : Nat) : Int) (by omega) dL_law_821 hl rfl (by decide) rfl (fun ls hl => ?_)
        refine lv_goto (tgt := 18) hx hb dL_law_824 (by decide) ?_
        exact ih (i + 5) n k d v pl rr hc κ ν π ss sf st lt gl g0 g1 g2 g3 g4 g5 g6 f0 f1 f2 f3 f4 f5 f6 ml m0 m1 m3 mq e0 e1 e3 e4 gw gt gs gp mr mt mb mf mw mu ik kn kk kd kv kr kq ku w0 s0 s1 s2 s3 s4 s5 hs (by omega) hi hinv H locs ls hP hD hS (lv_sub hl [1, 2, 3, 0] rfl)
      refine lv_aload_n hx hb dL_law_26 rfl (lv_at hl 0 rfl) ?_
      refine lv_iload_n hx hb dL_law_27 rfl (lv_at hl 3 rfl) ?_
      refine z_sld hx hb hV hbl hbA hS i (by omega) (by omega) dL_law_28 ?_
      refine lv_bipush (v := zI 31) hx hb dL_law_29 (by decide) ?_
      obtain ⟨w, hw⟩ : ∃ w, w = (zI (xz xs i) &&& zI 31).toInt := ⟨_, rfl⟩
      have hwr : -2147483648 ≤ w ∧ w < 2147483648 := by rw [hw]; exact zI_rng _
      refine z_iand hx hb w (by rw [hw]; exact zI_of _) dL_law_31 ?_
      by_cases c_0 : w = 0
      · refine lv_tableIn (tgt := 152) hx hb dL_law_32 (by rw [zI_toInt (by omega)]; omega) (by rw [zI_toInt (by omega)]; omega) (by rw [zI_toInt (by omega), c_0]; rfl) (by decide) ?_
        exact law_c0 l K hX hV hbl hL hi hinv cut_821 H locs ls hP hD hS hl
      by_cases c_1 : w = 1
      · refine lv_tableIn (tgt := 175) hx hb dL_law_32 (by rw [zI_toInt (by omega)]; omega) (by rw [zI_toInt (by omega)]; omega) (by rw [zI_toInt (by omega), c_1]; rfl) (by decide) ?_
        exact law_c1 l K hX hV hbl hL hi hinv cut_821 H locs ls hP hD hS hl
      by_cases c_2 : w = 2
      · refine lv_tableIn (tgt := 188) hx hb dL_law_32 (by rw [zI_toInt (by omega)]; omega) (by rw [zI_toInt (by omega)]; omega) (by rw [zI_toInt (by omega), c_2]; rfl) (by decide) ?_
        exact law_c2 l K hX hV hbl hL hi hinv cut_821 H locs ls hP hD hS hl
      by_cases c_3 : w = 3
      · refine lv_tableIn (tgt := 201) hx hb dL_law_32 (by rw [zI_toInt (by omega)]; omega) (by rw [zI_toInt (by omega)]; omega) (by rw [zI_toInt (by omega), c_3]; rfl) (by decide) ?_
        by_cases hv : rOk pl lt
        · exact law_c3a l K hX hV hbl hL hi hinv hv cut_821 H locs ls hP hD hS hl
        · exact law_c3b l K hX hV hbl hL hi hinv hv cut_821 H locs ls hP hD hS hl
      by_cases c_4 : w = 4
      · refine lv_tableIn (tgt := 214) hx hb dL_law_32 (by rw [zI_toInt (by omega)]; omega) (by rw [zI_toInt (by omega)]; omega) (by rw [zI_toInt (by omega), c_4]; rfl) (by decide) ?_
        exact law_c4 l K hX hV hbl hL hi hinv cut_821 H locs ls hP hD hS hl
      by_cases c_5 : w = 5
      · refine lv_tableIn (tgt := 247) hx hb dL_law_32 (by rw [zI_toInt (by omega)]; omega) (by rw [zI_toInt (by omega)]; omega) (by rw [zI_toInt (by omega), c_5]; rfl) (by decide) ?_
        exact law_c5 l K hX hV hbl hL hi hinv cut_821 H locs ls hP hD hS hl
      by_cases c_6 : w = 6
      · refine lv_tableIn (tgt := 280) hx hb dL_law_32 (by rw [zI_toInt (by omega)]; omega) (by rw [zI_toInt (by omega)]; omega) (by rw [zI_toInt (by omega), c_6]; rfl) (by decide) ?_
        exact law_c6 l K hX hV hbl hL hi hinv cut_821 H locs ls hP hD hS hl
      by_cases c_7 : w = 7
      · refine lv_tableIn (tgt := 303) hx hb dL_law_32 (by rw [zI_toInt (by omega)]; omega) (by rw [zI_toInt (by omega)]; omega) (by rw [zI_toInt (by omega), c_7]; rfl) (by decide) ?_
        exact law_c7 l K hX hV hbl hL hi hinv cut_821 H locs ls hP hD hS hl
      by_cases c_8 : w = 8
      · refine lv_tableIn (tgt := 336) hx hb dL_law_32 (by rw [zI_toInt (by omega)]; omega) (by rw [zI_toInt (by omega)]; omega) (by rw [zI_toInt (by omega), c_8]; rfl) (by decide) ?_
        exact law_c8 l K hX hV hbl hL hi hinv cut_821 H locs ls hP hD hS hl
      by_cases c_9 : w = 9
      · refine lv_tableIn (tgt := 359) hx hb dL_law_32 (by rw [zI_toInt (by omega)]; omega) (by rw [zI_toInt (by omega)]; omega) (by rw [zI_toInt (by omega), c_9]; rfl) (by decide) ?_
        exact law_c9 l K hX hV hbl hL hi hinv cut_821 H locs ls hP hD hS hl
      by_cases c_10 : w = 10
      · refine lv_tableIn (tgt := 372) hx hb dL_law_32 (by rw [zI_toInt (by omega)]; omega) (by rw [zI_toInt (by omega)]; omega) (by rw [zI_toInt (by omega), c_10]; rfl) (by decide) ?_
        exact law_c10 l K hX hV hbl hL hi hinv cut_821 H locs ls hP hD hS hl
      by_cases c_11 : w = 11
      · refine lv_tableIn (tgt := 405) hx hb dL_law_32 (by rw [zI_toInt (by omega)]; omega) (by rw [zI_toInt (by omega)]; omega) (by rw [zI_toInt (by omega), c_11]; rfl) (by decide) ?_
        exact law_c11 l K hX hV hbl hL hi hinv cut_821 H locs ls hP hD hS hl
      by_cases c_12 : w = 12
      · refine lv_tableIn (tgt := 418) hx hb dL_law_32 (by rw [zI_toInt (by omega)]; omega) (by rw [zI_toInt (by omega)]; omega) (by rw [zI_toInt (by omega), c_12]; rfl) (by decide) ?_
        exact law_c12 l K hX hV hbl hL hi hinv cut_821 H locs ls hP hD hS hl
      by_cases c_13 : w = 13
      · refine lv_tableIn (tgt := 461) hx hb dL_law_32 (by rw [zI_toInt (by omega)]; omega) (by rw [zI_toInt (by omega)]; omega) (by rw [zI_toInt (by omega), c_13]; rfl) (by decide) ?_
        exact law_c13 l K hX hV hbl hL hi hinv cut_821 H locs ls hP hD hS hl
      by_cases c_14 : w = 14
      · refine lv_tableIn (tgt := 484) hx hb dL_law_32 (by rw [zI_toInt (by omega)]; omega) (by rw [zI_toInt (by omega)]; omega) (by rw [zI_toInt (by omega), c_14]; rfl) (by decide) ?_
        exact law_c14 l K hX hV hbl hL hi hinv cut_821 H locs ls hP hD hS hl
      by_cases c_15 : w = 15
      · refine lv_tableIn (tgt := 517) hx hb dL_law_32 (by rw [zI_toInt (by omega)]; omega) (by rw [zI_toInt (by omega)]; omega) (by rw [zI_toInt (by omega), c_15]; rfl) (by decide) ?_
        exact law_c15 l K hX hV hbl hL hi hinv cut_821 H locs ls hP hD hS hl
      by_cases c_16 : w = 16
      · refine lv_tableIn (tgt := 540) hx hb dL_law_32 (by rw [zI_toInt (by omega)]; omega) (by rw [zI_toInt (by omega)]; omega) (by rw [zI_toInt (by omega), c_16]; rfl) (by decide) ?_
        exact law_c16 l K hX hV hbl hL hi hinv cut_821 H locs ls hP hD hS hl
      by_cases c_17 : w = 17
      · refine lv_tableIn (tgt := 583) hx hb dL_law_32 (by rw [zI_toInt (by omega)]; omega) (by rw [zI_toInt (by omega)]; omega) (by rw [zI_toInt (by omega), c_17]; rfl) (by decide) ?_
        exact law_c17 l K hX hV hbl hL hi hinv cut_821 H locs ls hP hD hS hl
      by_cases c_18 : w = 18
      · refine lv_tableIn (tgt := 606) hx hb dL_law_32 (by rw [zI_toInt (by omega)]; omega) (by rw [zI_toInt (by omega)]; omega) (by rw [zI_toInt (by omega), c_18]; rfl) (by decide) ?_
        exact law_c18 l K hX hV hbl hL hi hinv cut_821 H locs ls hP hD hS hl
      by_cases c_19 : w = 19
      · refine lv_tableIn (tgt := 659) hx hb dL_law_32 (by rw [zI_toInt (by omega)]; omega) (by rw [zI_toInt (by omega)]; omega) (by rw [zI_toInt (by omega), c_19]; rfl) (by decide) ?_
        exact law_c19 l K hX hV hbl hL hi hinv cut_821 H locs ls hP hD hS hl
      by_cases c_20 : w = 20
      · refine lv_tableIn (tgt := 702) hx hb dL_law_32 (by rw [zI_toInt (by omega)]; omega) (by rw [zI_toInt (by omega)]; omega) (by rw [zI_toInt (by omega), c_20]; rfl) (by decide) ?_
        exact law_c20 l K hX hV hbl hL hi hinv cut_821 H locs ls hP hD hS hl
      by_cases c_21 : w = 21
      · refine lv_tableIn (tgt := 715) hx hb dL_law_32 (by rw [zI_toInt (by omega)]; omega) (by rw [zI_toInt (by omega)]; omega) (by rw [zI_toInt (by omega), c_21]; rfl) (by decide) ?_
        exact law_c21 l K hX hV hbl hL hi hinv cut_821 H locs ls hP hD hS hl
      by_cases c_22 : w = 22
      · refine lv_tableIn (tgt := 758) hx hb dL_law_32 (by rw [zI_toInt (by omega)]; omega) (by rw [zI_toInt (by omega)]; omega) (by rw [zI_toInt (by omega), c_22]; rfl) (by decide) ?_
        by_cases hv : k = 0
        · exact law_c22b l K hX hV hbl hL hi hinv hv cut_821 H locs ls hP hD hS hl
        · exact law_c22a l K hX hV hbl hL hi hinv hv cut_821 H locs ls hP hD hS hl
      by_cases c_23 : w = 23
      · refine lv_tableIn (tgt := 771) hx hb dL_law_32 (by rw [zI_toInt (by omega)]; omega) (by rw [zI_toInt (by omega)]; omega) (by rw [zI_toInt (by omega), c_23]; rfl) (by decide) ?_
        rcases hinv.2.2.2.2.2 with hv | hv
        · exact law_c23b l K hX hV hbl hL hi hinv hv cut_821 H locs ls hP hD hS hl
        · exact law_c23a l K hX hV hbl hL hi hinv hv cut_821 H locs ls hP hD hS hl
      by_cases c_24 : w = 24
      · refine lv_tableIn (tgt := 784) hx hb dL_law_32 (by rw [zI_toInt (by omega)]; omega) (by rw [zI_toInt (by omega)]; omega) (by rw [zI_toInt (by omega), c_24]; rfl) (by decide) ?_
        exact law_c24 l K hX hV hbl hL hi hinv cut_821 H locs ls hP hD hS hl
      by_cases c_25 : w = 25
      · refine lv_tableIn (tgt := 807) hx hb dL_law_32 (by rw [zI_toInt (by omega)]; omega) (by rw [zI_toInt (by omega)]; omega) (by rw [zI_toInt (by omega), c_25]; rfl) (by decide) ?_
        exact law_c25 l K hX hV hbl hL hi hinv cut_821 H locs ls hP hD hS hl
      refine lv_tableOut (tgt := 821) hx hb dL_law_32 (by rw [zI_toInt (by omega)]; omega) (by decide) ?_
      exact cut_821 n k d v pl rr hc κ ν π ss sf st lt gl g0 g1 g2 g3 g4 g5 g6 f0 f1 f2 f3 f4 f5 f6 ml m0 m1 m3 mq e0 e1 e3 e4 gw gt gs gp mr mt mb mf mw mu ik kn kk kd kv kr kq ku w0 s0 s1 s2 s3 s4 s5 hs (LInv_up (by omega) hinv) H locs ls hP hD hS hl
