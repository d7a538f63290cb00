def xz (xs : Nat → Int32) (j : Nat) : Int := (xs j).toInt
theorem xz_r (xs : Nat → Int32) (j : Nat) : -2147483648 ≤ xz xs j ∧ xz xs j < 2147483648 := zI_rng _
section ZLAW
variable {p : Program} {l : Launch} {e : Env} {R : Room} {s : State} {m : MethodId} {args : Array Value} {below : List Frame} {meth : Method} {c : Code} {H : Heap} {locs : List Loc} {cells slots : Nat} {Q : State → Prop}
variable {cc : ByteArray} {pc : Nat} {ls : Array Slot} {rest : List Value}
theorem z_sld (hx : p.tables.exec = Jvm.exec) (hb : c.code = cc) {b L : Nat} {xs : Nat → Int32} {A : Nat → Prop} {H0 : Heap} (hV : va_X b L xs s H0) (hbl : b < H0.size) (hbA : ¬ A b) (hS : va_S A H0 H locs) (n : Nat) (hn : n < L) (hL : L < 100000) (hdg : decode cc pc = .ok (.iaload, 1))
    (kk : W p l e R s m args below meth c H locs cells slots Q (F0 m (pc + 1) ls (.int (zI (xz xs n)) :: rest))) : W p l e R s m args below meth c H locs cells slots Q (F0 m pc ls (.int (zI (n : Int)) :: .ref b :: rest)) := by
  refine va_sld hx hb hV hbl hbA hS (zI_in hn (by omega)) hdg ?_
  rw [zI_clamp (by omega), zI_of (xs n)]; exact kk
theorem z_slen (hx : p.tables.exec = Jvm.exec) (hb : c.code = cc) {b L : Nat} {xs : Nat → Int32} {A : Nat → Prop} {H0 : Heap} (hV : va_X b L xs s H0) (hbl : b < H0.size) (hbA : ¬ A b) (hS : va_S A H0 H locs) (hdg : decode cc pc = .ok (.arraylength, 1))
    (kk : W p l e R s m args below meth c H locs cells slots Q (F0 m (pc + 1) ls (.int (zI (L : Int)) :: rest))) : W p l e R s m args below meth c H locs cells slots Q (F0 m pc ls (.ref b :: rest)) := by
  refine va_slen hx hb hV hbl hbA hS hdg ?_
  rw [zI_nat] at kk; exact kk
theorem z_same (hx : p.tables.exec = Jvm.exec) (hb : c.code = cc) {x : Int32} {off : Int} {tgt : Nat} (hdg : decode cc pc = .ok (.if_icmp .eq off, 3)) (ht : (pc : Int) + off = (tgt : Int)) (kt : W p l e R s m args below meth c H locs cells slots Q (F0 m tgt ls rest)) : W p l e R s m args below meth c H locs cells slots Q (F0 m pc ls (.int x :: .int x :: rest)) :=
  lv_icmp_eq hx hb hdg ht (fun _ => kt) (fun h => absurd rfl h)
theorem z_lsame (hx : p.tables.exec = Jvm.exec) (hb : c.code = cc) {x : Int64} (hdg : decode cc pc = .ok (.lcmp, 1)) (kt : W p l e R s m args below meth c H locs cells slots Q (F0 m (pc + 1) ls (.int (zI 0) :: rest))) : W p l e R s m args below meth c H locs cells slots Q (F0 m pc ls (.long x :: .long x :: rest)) := by
  refine W.lcmp hx hb hdg ?_
  have h1 : ¬ x < x := fun h => absurd (Int64.lt_iff_toInt_lt.mp h) (by omega)
  have e3 : lg_cmp x x = zI 0 := by simp [lg_cmp, h1]; rfl
  rw [e3]; exact kt
end ZLAW
/-! what holds between the class, the model and the calls that were made -/
def KI (n k rr : Nat) (ik kr kn kk kd kv kq ku : Int) (f0 f1 f2 f3 f4 f5 f6 e0 e1 e3 e4 : Nat → Int) : Prop := (ik = 0 ∧ kr < (rr : Int)) ∨ (ik = 1 ∧ kr = (rr : Int) ∧ ∃ (dk vk : Nat) (κ ν π ss sf st : Nat → Nat), (kn = (n : Int) ∧ kk = (k : Int) ∧ kd = (dk : Int) ∧ kv = (vk : Int) ∧ kq = (dk : Int) ∧ ku = (vk : Int)) ∧ TI n k dk vk f0 f1 f2 f3 f4 f5 f6 κ ν π ss sf st ∧ MI n k dk vk e0 e1 e3 e4 κ ν π ss sf st)
def LInv (n k d v pl rr hc : Nat) (κ ν π ss sf st lt : Nat → Nat) (gl g0 g1 g2 g3 g4 g5 g6 f0 f1 f2 f3 f4 f5 f6 ml m0 m1 m3 mq e0 e1 e3 e4 : Nat → Int) (ik kn kk kd kv kr kq ku : Int) (i : Nat) : Prop := TI n k d v g0 g1 g2 g3 g4 g5 g6 κ ν π ss sf st ∧ LI pl gl lt ∧ MI n k d v m0 m1 m3 mq κ ν π ss sf st ∧ LI pl ml lt ∧ (rr ≤ i ∧ hc ≤ 30 ∧ -1 ≤ kr ∧ kr ≤ (rr : Int)) ∧ KI n k rr ik kr kn kk kd kv kq ku f0 f1 f2 f3 f4 f5 f6 e0 e1 e3 e4
theorem LI_z {g : Nat → Int} {lt : Nat → Nat} : LI 0 g lt := ⟨by omega, fun j hj => by omega, fun j hj => by omega⟩
theorem TI_v0 {n k d v : Nat} {g0 g1 g2 g3 g4 g5 g6 : Nat → Int} {κ ν π ss sf st : Nat → Nat} (h : TI n k d v g0 g1 g2 g3 g4 g5 g6 κ ν π ss sf st) : TI n k d 0 g0 g1 g2 g3 g4 g5 g6 κ ν π ss sf st := by
  obtain ⟨h1, h2, h3, h4, h5, h6, h7, h8, h9, h10, h11, h12⟩ := h
  exact ⟨h1, h2, by omega, h4, h5, h6, h7, h8, h9, h10, h11, fun j hj => by omega, fun j hj => by omega, fun j hj => by omega, fun j hj => by omega, fun j hj => by omega, fun j hj => by omega⟩
theorem MI_v0 {n k d v : Nat} {g0 g1 g3 gq : Nat → Int} {κ ν π ss sf st : Nat → Nat} (h : MI n k d v g0 g1 g3 gq κ ν π ss sf st) : MI n k d 0 g0 g1 g3 gq κ ν π ss sf st := by
  obtain ⟨h1, h2, h3, h4, h5, h6, h7, h9, h10, h11, h12⟩ := h
  exact ⟨h1, h2, by omega, h4, h5, h6, h7, h9, h10, h11, fun j hj => by omega, fun j hj => by omega, fun j hj => by omega, fun j hj => by omega, fun j hj => by omega, fun j hj => by omega⟩
theorem hc_le {y : Int} {k hc : Nat} (h : hc ≤ 30) : chk y 2 (fun _ => if k = 0 ∨ 30 ≤ hc then hc else hc + 1) hc ≤ 30 := by
  unfold chk
  split
  · dsimp only
    split <;> omega
  · exact h
def R_law : String := "DeckHandsLaw"
def lw_P (b : Addr) (xs : List Int32) (args : Array Value) (s : State) : Prop := args = #[.ref b] ∧ s.IntsAt b xs ∧ xs.length ≤ 2560 ∧ (Jvm.Cond.and given_1 narrow_1).before args s = true
def lw_Q (_ : Array Value) (s : State) (o : Outcome) (t : State) : Prop := o = .returned (some (.int 1)) ∧ Framed s o t [] 40 536
def lw_Z (below : List Frame) (a : Array Value) (s : State) : State → Prop := fun t => ∃ o, t.status = .running ∧ Ended t below o ∧ lw_Q a s o t
/-- the law's own end, with 1 on the stack, nothing written that was there before, its room as the claim has it -/
theorem lw_ret {p : Program} {l : Launch} {e : Env} {s : State} {m : MethodId} {below : List Frame} {meth : Method} {c : Code} {b : Nat} (hx : p.tables.exec = Jvm.exec) (hb : c.code = code) (hr : meth.sig.returnType = ret) (hlocks : meth.locks = false) {pc : Nat} {H : Heap} {ls : Array Slot} (hdg : decode code pc = .ok (.ireturn, 1)) : W p l e room_1 s m #[Value.ref b] below meth c H [] 40 536 (lw_Z below #[Value.ref b] s) (F0 m pc ls [.int 1]) := by
  intro T hT X
  obtain ⟨fs, hret, hrun, hended, hW, hframe⟩ := X.leave (v := some (.int 1)) (hlocks := hlocks) (fun h => by rw [hr] at h; cases h)
  have hmeth' : T.vm.method? m = some meth := X.method'
  refine ⟨T.setFrames fs, ?_, .returned (some (.int 1)), hrun, hended, rfl, ⟨_, rfl⟩, hW, hframe⟩
  jvm_step X.here [X.here.top, hx, hb, hdg, hmeth', hr, ret, narrow_b1]
  (try refine ⟨rfl, ?_⟩); (try refine ⟨rfl, ?_⟩)
  first | (intro acts; rw [hret _ acts rfl rfl rfl]) | rw [hret _ _ rfl rfl rfl]
  exact Steps.refl _
/-- what holds at the law's entry: the machine, the code, the tables' words (any of lw_tbl by 'hts w (by decide +kernel)'), the script of L ints xs at the cell b, what the Statement gives of the start (any of its parts by flat_of_before) -/
def lw_At (p : Program) (s : State) (m : MethodId) (meth : Method) (c : Code) (b L : Nat) (xs : Nat → Int32) : Prop :=
  p.tables.exec = Jvm.exec ∧ c.code = code ∧ meth.sig.returnType = ret ∧ c.maxLocals = 4 ∧ s.vm.findClass R_law = some m.cls ∧ (∀ w ∈ lw_tbl, w.before #[Value.ref b] s = true) ∧ va_X b L xs s s.heap ∧ b < s.heap.size ∧ meth.locks = false ∧ (Jvm.Cond.and given_1 narrow_1).before #[Value.ref b] s = true
