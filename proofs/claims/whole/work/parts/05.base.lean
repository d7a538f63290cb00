/-! Numbers as integers: an int of the machine is zI of an integer, an int array is zA of a row of integers. -/
def zA (g : Nat → Int) : Nat → Int32 := fun j => zI (g j)
def zup (g : Nat → Int) (k : Nat) (v : Int) : Nat → Int := fun j => if j = k then v else g j
theorem zup_s (g : Nat → Int) (k : Nat) (v : Int) : zup g k v k = v := if_pos rfl
theorem zup_n {g : Nat → Int} {k j : Nat} {v : Int} (h : j ≠ k) : zup g k v j = g j := if_neg h
theorem zI_add (a b : Int) : zI a + zI b = zI (a + b) := (Int32.ofInt_add a b).symm
theorem zI_sub (a b : Int) : zI a - zI b = zI (a - b) := (Int32.ofInt_sub a b).symm
theorem zI_mul (a b : Int) : zI a * zI b = zI (a * b) := (Int32.ofInt_mul a b).symm
theorem zI_toInt {z : Int} (h : -2147483648 ≤ z ∧ z < 2147483648) : (zI z).toInt = z := by
  show (Int32.ofInt z).toInt = z
  rw [Int32.toInt_ofInt]
  show z.bmod (2 ^ 32) = z
  rw [Int.bmod_def]
  have h32 : ((2 ^ 32 : Nat) : Int) = 4294967296 := rfl
  rw [h32]
  split <;> omega
theorem zI_of (x : Int32) : x = zI x.toInt := (Int32.ofInt_toInt x).symm
theorem zI_rng (x : Int32) : -2147483648 ≤ x.toInt ∧ x.toInt < 2147483648 := by
  have h1 := Int32.le_toInt x
  have h2 := Int32.toInt_lt x
  omega
theorem zI_lt {a b : Int} (ha : -2147483648 ≤ a ∧ a < 2147483648) (hb : -2147483648 ≤ b ∧ b < 2147483648) : zI a < zI b ↔ a < b := by
  rw [Int32.lt_iff_toInt_lt, zI_toInt ha, zI_toInt hb]
theorem zI_le {a b : Int} (ha : -2147483648 ≤ a ∧ a < 2147483648) (hb : -2147483648 ≤ b ∧ b < 2147483648) : zI a ≤ zI b ↔ a ≤ b := by
  rw [Int32.le_iff_toInt_le, zI_toInt ha, zI_toInt hb]
theorem zI_eq {a b : Int} (ha : -2147483648 ≤ a ∧ a < 2147483648) (hb : -2147483648 ≤ b ∧ b < 2147483648) : zI a = zI b ↔ a = b := by
  constructor
  · intro h
    have h2 := congrArg Int32.toInt h
    rwa [zI_toInt ha, zI_toInt hb] at h2
  · intro h; rw [h]
theorem zI_nat (n : Nat) : zI (n : Int) = nI n := by first | rfl | (show Int32.ofInt (n : Int) = Int32.ofNat n; simp) | exact Int32.ofInt_eq_ofNat
theorem zI_0 : zI 0 = 0 := rfl
theorem zI_clamp {n : Nat} (h : n < 2147483648) : (zI (n : Int)).toNatClampNeg = n := by
  rw [zI_nat]; exact nI_clamp (by omega)
theorem zI_in {i n : Nat} (h : i < n) (hn : n < 2147483648) : vp_in (zI (i : Int)) n := by
  rw [zI_nat]; exact vp_in_nI h (by omega)
theorem zI_div {a b : Int} (ha : 0 ≤ a ∧ a < 2147483648) (hb : 0 < b ∧ b < 2147483648) : zI a / zI b = zI (a / b) := by
  obtain ⟨x, rfl⟩ := Int.eq_ofNat_of_zero_le ha.1
  obtain ⟨y, rfl⟩ := Int.eq_ofNat_of_zero_le (Int.le_of_lt hb.1)
  rw [show ((x : Int) / (y : Int)) = ((x / y : Nat) : Int) from rfl, zI_nat, zI_nat, zI_nat]
  exact pk_div (by omega) (by omega) (by omega)
theorem zI_rem {a b : Int} (ha : 0 ≤ a ∧ a < 2147483648) (hb : 0 < b ∧ b < 2147483648) : zI a - zI a / zI b * zI b = zI (a % b) := by
  obtain ⟨x, rfl⟩ := Int.eq_ofNat_of_zero_le ha.1
  obtain ⟨y, rfl⟩ := Int.eq_ofNat_of_zero_le (Int.le_of_lt hb.1)
  rw [show ((x : Int) % (y : Int)) = ((x % y : Nat) : Int) from rfl, zI_nat, zI_nat, zI_nat]
  exact pk_rem (by omega) (by omega) (by omega)
theorem zL_add (a b : Int) : zL a + zL b = zL (a + b) := (Int64.ofInt_add a b).symm
theorem zL_sub (a b : Int) : zL a - zL b = zL (a - b) := (Int64.ofInt_sub a b).symm
theorem zL_mul (a b : Int) : zL a * zL b = zL (a * b) := (Int64.ofInt_mul a b).symm
theorem zL_toInt {z : Int} (h : -9223372036854775808 ≤ z ∧ z < 9223372036854775808) : (zL z).toInt = z := by
  show (Int64.ofInt z).toInt = z
  rw [Int64.toInt_ofInt]
  show z.bmod (2 ^ 64) = z
  rw [Int.bmod_def]
  have h32 : ((2 ^ 64 : Nat) : Int) = 18446744073709551616 := rfl
  rw [h32]
  split <;> omega
theorem zL_lt {a b : Int} (ha : -9223372036854775808 ≤ a ∧ a < 9223372036854775808) (hb : -9223372036854775808 ≤ b ∧ b < 9223372036854775808) : zL a < zL b ↔ a < b := by
  rw [Int64.lt_iff_toInt_lt, zL_toInt ha, zL_toInt hb]
theorem zL_eq {a b : Int} (ha : -9223372036854775808 ≤ a ∧ a < 9223372036854775808) (hb : -9223372036854775808 ≤ b ∧ b < 9223372036854775808) : zL a = zL b ↔ a = b := by
  constructor
  · intro h
    have h2 := congrArg Int64.toInt h
    rwa [zL_toInt ha, zL_toInt hb] at h2
  · intro h; rw [h]
theorem zL_i {z : Int} (h : -2147483648 ≤ z ∧ z < 2147483648) : (zI z).toInt64 = zL z := by
  apply Int64.toInt_inj.mp
  rw [Int32.toInt_toInt64, zI_toInt h, zL_toInt (by omega)]
theorem zA_up (g : Nat → Int) (k : Nat) (v : Int) : upd (zA g) k (zI v) = zA (zup g k v) := by
  funext j
  by_cases h : j = k
  · subst h; rw [pk_us]; show zI v = zI (zup g j v j); rw [zup_s]
  · rw [pk_un h]; show zI (g j) = zI (zup g k v j); rw [zup_n h]
/-! The context of a walk -/
abbrev cls : List vw_C := [(RX0, TX0, 2), (RX1, TX1, 11), (RX2, TX2, 2), (RX3, TX3, 10), (RX4, TX4, 32)]
def zE (D : va_G) (cI : ClassId) (U : State) : Prop := va_K D cls [(cI, .int)] U ∧ ∀ w ∈ tables_1, isNest w = true → va_Nw w U
theorem nest_on {w : Cond} (h : isNest w = true) : w.onTables = true := by
  cases w <;> first | rfl | exact absurd h (by decide) | (simp [isNest] at h)
theorem zE.warm {D : va_G} {cI : ClassId} {s U : State} (hW : s.WarmedH U.vm) (h : zE D cI s) : zE D cI U := by
  refine ⟨va_K.moved hW.alike h.1, fun w hw hn => ?_⟩
  have h1 := h.2 w hw hn
  cases w
  case fieldLinkNest => exact va_Nw.warmF hW h1
  case methodLinkNest => exact va_Nw.warmM hW h1
  all_goals (simp [isNest] at hn)
theorem zE.same {D : va_G} {cI : ClassId} {u U : State} (hv : u.vm = U.vm) (h : zE D cI u) : zE D cI U := by
  refine ⟨va_K.moved (by rw [hv]; exact Vm.Alike.refl _) h.1, fun w hw hn => ?_⟩
  exact va_Nw.same (nest_on hn) hv (h.2 w hw hn)
def zPre (D : va_G) (cI : ClassId) (sz : Nat) (ws : va_W) (av : List Value) : Array Value → State → Prop := va_Pc av (fun U => U.heap.size = sz ∧ va_P D cls ws U.heap ∧ zE D cI U ∧ va_D (fun _ => True) ws)
theorem zPre_blind (D : va_G) (cI : ClassId) (sz : Nat) (ws : va_W) (av : List Value) : FrameBlind (zPre D cI sz ws av) := fun a U g mk q => by
  obtain ⟨q0, q1, qP, qE, qD⟩ := q
  exact ⟨q0, q1, qP, zE.same (u := U) (U := U.calling g mk a) rfl qE, qD⟩
def zB (D : va_G) (sz : Nat) (ws0 ws1 : va_W) (t : State) : Prop := va_P D cls ws1 t.heap ∧ va_D (va_A ws0 sz) ws1
abbrev zW (y : MethodName) (c : ByteArray) (maxL : Nat) (ret : Option FieldType) : List Cond := .code y c maxL ret :: TT
abbrev zQi {S : Type} (D : va_G) (sz : Nat) (ws0 : va_W) (post : Int → S → Prop) (w1 : S → va_W) := va_Qi (fun (r : Int32) (u : S) => ∃ z : Int, r = zI z ∧ post z u) (fun u t => zB D sz ws0 (w1 u) t) (va_A ws0 sz)
abbrev zQl {S : Type} (D : va_G) (sz : Nat) (ws0 : va_W) (post : Int → S → Prop) (w1 : S → va_W) := va_Ql (fun (r : Int64) (u : S) => ∃ z : Int, r = zL z ∧ post z u) (fun u t => zB D sz ws0 (w1 u) t) (va_A ws0 sz)
abbrev zQv {S : Type} (D : va_G) (sz : Nat) (ws0 : va_W) (post : S → Prop) (w1 : S → va_W) := va_Qv (fun (u : S) => post u) (fun u t => zB D sz ws0 (w1 u) t) (va_A ws0 sz)
abbrev zQr {S : Type} (D : va_G) (sz : Nat) (ws0 : va_W) (ra : Nat) (post : S → Prop) (w1 : S → va_W) := va_Qr (fun (u : S) => post u) (fun u a t => a = ra ∧ zB D sz ws0 (w1 u) t) (va_A ws0 sz)
def zMi {S : Type} (l : Launch) (y : MethodName) (c : ByteArray) (maxL : Nat) (ret : Option FieldType) (rm : Room) (D : va_G) (cI : ClassId) (av : List Value) (ws0 : va_W) (post : Int → S → Prop) (w1 : S → va_W) : Prop := ∀ sz : Nat, Met l y (zW y c maxL ret) rm (zPre D cI sz ws0 av) (zQi D sz ws0 post w1) 0 0 (va_A ws0 sz)
def zMl {S : Type} (l : Launch) (y : MethodName) (c : ByteArray) (maxL : Nat) (ret : Option FieldType) (rm : Room) (D : va_G) (cI : ClassId) (av : List Value) (ws0 : va_W) (post : Int → S → Prop) (w1 : S → va_W) : Prop := ∀ sz : Nat, Met l y (zW y c maxL ret) rm (zPre D cI sz ws0 av) (zQl D sz ws0 post w1) 0 0 (va_A ws0 sz)
def zMv {S : Type} (l : Launch) (y : MethodName) (c : ByteArray) (maxL : Nat) (ret : Option FieldType) (rm : Room) (D : va_G) (cI : ClassId) (av : List Value) (ws0 : va_W) (post : S → Prop) (w1 : S → va_W) : Prop := ∀ sz : Nat, Met l y (zW y c maxL ret) rm (zPre D cI sz ws0 av) (zQv D sz ws0 post w1) 0 0 (va_A ws0 sz)
def zMr {S : Type} (l : Launch) (y : MethodName) (c : ByteArray) (maxL : Nat) (ret : Option FieldType) (rm : Room) (D : va_G) (cI : ClassId) (av : List Value) (ws0 : va_W) (ra : Nat) (post : S → Prop) (w1 : S → va_W) : Prop := ∀ sz : Nat, Met l y (zW y c maxL ret) rm (zPre D cI sz ws0 av) (zQr D sz ws0 ra post w1) 0 0 (va_A ws0 sz)
def zK (p : Program) (s : State) (m : MethodId) (args : Array Value) (meth : Method) (c : Code) (cc : ByteArray) (nL : Nat) (own : String) (ret : Option FieldType) (D : va_G) (cI : ClassId) : Prop :=
  p.tables.exec = Jvm.exec ∧ c.code = cc ∧ c.maxLocals = nL ∧ s.vm.findClass own = some m.cls ∧ (∀ w ∈ TT, w.before args s = true) ∧ zE D cI s ∧ meth.sig.returnType = ret ∧ meth.locks = false
theorem zW_good {y y' : MethodName} {c c' : ByteArray} {n n' : Nat} {r r' : Option FieldType} (h : Cond.code y c n r ∈ TT) : GoodIn (zW y' c' n' r') (zW y c n r) := by
  intro w hw
  rcases List.mem_cons.mp hw with e | e
  · subst e
    exact ⟨List.mem_cons_of_mem _ h, good_of_word (TT_good h).2⟩
  · exact ⟨List.mem_cons_of_mem _ e, good_of_word (TT_good e).2⟩
theorem TT_GoodIn {y : MethodName} {c : ByteArray} {n : Nat} {r : Option FieldType} (h : Cond.code y c n r ∈ TT) : GoodIn TT (zW y c n r) := by
  intro w hw
  rcases List.mem_cons.mp hw with e | e
  · subst e
    exact ⟨h, good_of_word (TT_good h).2⟩
  · exact ⟨e, good_of_word (TT_good e).2⟩
section Z1
variable {p : Program} {l : Launch} {e : Env} {R : Room} {s : State} {m : MethodId} {args : Array Value} {below : List Frame} {meth : Method} {c : Code} {H : Heap} {locs : List Loc} {cells slots : Nat} {Q : State → Prop}
variable {cc : ByteArray} {pc : Nat} {ls : Array Slot} {rest : List Value} {D : va_G} {cI : ClassId} {nL : Nat} {own : String} {ret : Option FieldType}
theorem zstart {y : MethodName} {rm : Room} {Pc : Array Value → State → Prop} {Qc : Array Value → State → Outcome → State → Prop} {mc ms : Nat} {free : Addr → Prop} {maxL : Nat} {ws0 : va_W} {sz : Nat} {av : List Value} (hPc : Pc = zPre D cI sz ws0 av) (hy : plainName y.cls = true) (hav : (lg_sl av).length ≤ maxL)
    (body : ∀ (p : Program) (e : Env) (s : State) (m : MethodId) (below : List Frame) (meth : Method) (c : Code) (ls : Array Slot), zK p s m av.toArray meth c cc maxL y.cls ret D cI → (y.name = "<init>" → meth.name = "<init>") → s.heap.size = sz → va_P D cls ws0 s.heap → va_D (va_A ws0 sz) ws0 → va_S (va_A ws0 sz) s.heap s.heap [] → lv_has ls maxL (lv_args 0 av) →
      W p l e rm s m av.toArray below meth c s.heap [] 0 0 (MQ below Qc av.toArray s mc ms free) (F0 m 0 ls [])) : Met l y (zW y cc maxL ret) rm Pc Qc mc ms free := by
  subst hPc
  refine Met.ofW (cc := cc) (maxL := maxL) (ret := ret) hy rfl ?_
  intro p e s m args below meth c s₁ B hml hv
  obtain ⟨rfl, hsz, hP, hE, hD0⟩ := hv
  have hts := atoms_spec (ws := zW y cc maxL ret) B.pre
  have hl := lv_entry av (n := maxL) hav
  rw [lg_entry_eq]
  refine body p e s m below meth c _ ⟨B.exec, B.bytes, hml, findClass_of_methodNamed B.named, fun w hw => hts w (List.mem_cons_of_mem _ hw), hE, B.returns, B.notSynchronized⟩ (fun h => ?_) hsz hP hD0.self va_S.rf hl
  rw [← h]
  exact (name_of_methodNamed B.named B.method).1
theorem zhA {ws0 : va_W} {sz : Nat} (h : s.heap.size = sz) : ∀ q : Nat, s.heap.size ≤ q → va_A ws0 sz q := fun q hq => Or.inr (by omega)
/-! arithmetic -/
theorem z_iadd (hx : p.tables.exec = Jvm.exec) (hb : c.code = cc) {a b : Int} (v : Int) (hv : a + b = v) (hdg : decode cc pc = .ok (.iadd, 1)) (k : W p l e R s m args below meth c H locs cells slots Q (F0 m (pc + 1) ls (.int (zI v) :: rest))) : W p l e R s m args below meth c H locs cells slots Q (F0 m pc ls (.int (zI b) :: .int (zI a) :: rest)) := by
  refine lv_iadd hx hb hdg ?_
  rw [zI_add, hv]; exact k
theorem z_isub (hx : p.tables.exec = Jvm.exec) (hb : c.code = cc) {a b : Int} (v : Int) (hv : a - b = v) (hdg : decode cc pc = .ok (.isub, 1)) (k : W p l e R s m args below meth c H locs cells slots Q (F0 m (pc + 1) ls (.int (zI v) :: rest))) : W p l e R s m args below meth c H locs cells slots Q (F0 m pc ls (.int (zI b) :: .int (zI a) :: rest)) := by
  refine lv_isub hx hb hdg ?_
  rw [zI_sub, hv]; exact k
theorem z_imul (hx : p.tables.exec = Jvm.exec) (hb : c.code = cc) {a b : Int} (v : Int) (hv : a * b = v) (hdg : decode cc pc = .ok (.imul, 1)) (k : W p l e R s m args below meth c H locs cells slots Q (F0 m (pc + 1) ls (.int (zI v) :: rest))) : W p l e R s m args below meth c H locs cells slots Q (F0 m pc ls (.int (zI b) :: .int (zI a) :: rest)) := by
  refine lv_imul hx hb hdg ?_
  rw [zI_mul, hv]; exact k
theorem zI_ne0 {b : Int} (hb : 0 < b ∧ b < 2147483648) : ¬ zI b = 0 := by
  intro h
  have h2 := (zI_eq (a := b) (b := 0) (by omega) (by omega)).mp h
  omega
theorem z_idiv (hx : p.tables.exec = Jvm.exec) (hb : c.code = cc) {a b : Int} (v : Int) (hr : (0 ≤ a ∧ a < 2147483648) ∧ (0 < b ∧ b < 2147483648)) (hv : a / b = v) (hdg : decode cc pc = .ok (.idiv, 1)) (k : W p l e R s m args below meth c H locs cells slots Q (F0 m (pc + 1) ls (.int (zI v) :: rest))) : W p l e R s m args below meth c H locs cells slots Q (F0 m pc ls (.int (zI b) :: .int (zI a) :: rest)) := by
  refine lv_idiv hx hb hdg (zI_ne0 hr.2) ?_
  rw [zI_div hr.1 hr.2, hv]; exact k
theorem z_irem (hx : p.tables.exec = Jvm.exec) (hb : c.code = cc) {a b : Int} (v : Int) (hr : (0 ≤ a ∧ a < 2147483648) ∧ (0 < b ∧ b < 2147483648)) (hv : a % b = v) (hdg : decode cc pc = .ok (.irem, 1)) (k : W p l e R s m args below meth c H locs cells slots Q (F0 m (pc + 1) ls (.int (zI v) :: rest))) : W p l e R s m args below meth c H locs cells slots Q (F0 m pc ls (.int (zI b) :: .int (zI a) :: rest)) := by
  refine lv_irem hx hb hdg (zI_ne0 hr.2) ?_
  rw [zI_rem hr.1 hr.2, hv]; exact k
theorem z_iinc (hx : p.tables.exec = Jvm.exec) (hb : c.code = cc) {i k : Nat} {n a : Int} {lv lv' : List (Nat × Value)} (v : Int) (hv : a + n = v) (hdg : decode cc pc = .ok (.iinc i n, 3)) (h : lv_has ls nL lv) (hk : lv[k]? = some (i, .int (zI a))) (hn : i < nL) (hl : (i, Value.int (zI v)) :: lv.filter (fun q => !(q.1 == i) && !(q.1 + 1 == i && q.2.category == 2)) = lv')
    (kk : ∀ ls' : Array Slot, lv_has ls' nL lv' → W p l e R s m args below meth c H locs cells slots Q (F0 m (pc + 3) ls' rest)) : W p l e R s m args below meth c H locs cells slots Q (F0 m pc ls rest) :=
  lv_iinc (v := zI v) hx hb hdg h hk (by rw [← hv]; exact zI_add a n) hn hl kk
end Z1
