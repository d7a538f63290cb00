/-! Text: the class's one constant "scdto" -/
def zby (j : Nat) : Int := if j = 0 then 115 else if j = 1 then 99 else if j = 2 then 100 else if j = 3 then 116 else 111
def zS (aK aV : Nat) (A : Nat → Prop) (U : State) (H : Heap) : Prop :=
  vk_R RX0 35 "scdto" aK U ∧ va_Z "java/lang/String" "COMPACT_STRINGS" "Z" (.int (zI 1)) A U H ∧ va_O "java/lang/String" aK A U H ∧ va_OF "java/lang/String" "coder" "B" (.int (zI 0)) aK A U H ∧ va_OF "java/lang/String" "value" "[B" (.ref aV) aK A U H ∧ va_T .byte aV 5 (fun j => .int (zI (zby j))) A U H
theorem zS.warm {aK aV : Nat} {A : Nat → Prop} {s U : State} {H : Heap} (hW : s.WarmedH U.vm) (h : zS aK aV A s H) : zS aK aV A U H :=
  ⟨vk_R.warm hW h.1, va_Z.moved hW.alike h.2.1, va_O.moved hW.alike h.2.2.1, va_OF.moved hW.alike h.2.2.2.1, va_OF.moved hW.alike h.2.2.2.2.1, va_T.moved hW.alike h.2.2.2.2.2⟩
theorem zS.same {aK aV : Nat} {A : Nat → Prop} {u U : State} {H : Heap} (hv : u.vm = U.vm) (h : zS aK aV A u H) : zS aK aV A U H := by
  have ha : u.vm.Alike U.vm := by rw [hv]; exact Vm.Alike.refl _
  exact ⟨vk_R.same hv.symm h.1, va_Z.moved ha h.2.1, va_O.moved ha h.2.2.1, va_OF.moved ha h.2.2.2.1, va_OF.moved ha h.2.2.2.2.1, va_T.moved ha h.2.2.2.2.2⟩
theorem zS.kept {aK aV : Nat} {A : Nat → Prop} {U : State} {H H1 : Heap} (h : zS aK aV A U H) (hq : ∀ a : Nat, a < H.size → ¬ A a → H1[a]? = H[a]?) : zS aK aV A U H1 :=
  ⟨h.1, h.2.1.kept hq, h.2.2.1.kept hq, h.2.2.2.1.kept hq, h.2.2.2.2.1.kept hq, h.2.2.2.2.2.kept hq⟩
theorem zS.narrow {aK aV : Nat} {A B : Nat → Prop} {U : State} {H : Heap} (h : zS aK aV A U H) (hAB : ∀ q, B q → A q) : zS aK aV B U H :=
  ⟨h.1, h.2.1.narrow hAB, h.2.2.1.narrow hAB, h.2.2.2.1.narrow hAB, h.2.2.2.2.1.narrow hAB, h.2.2.2.2.2.narrow hAB⟩
def zPreX (D : va_G) (cI : ClassId) (aK aV : Nat) (sz : Nat) (ws : va_W) (av : List Value) : Array Value → State → Prop := va_Pc av (fun U => U.heap.size = sz ∧ va_P D cls ws U.heap ∧ zE D cI U ∧ va_D (fun _ => True) ws ∧ zS aK aV (va_A ws sz) U U.heap)
theorem zPreX_blind (D : va_G) (cI : ClassId) (aK aV : Nat) (sz : Nat) (ws : va_W) (av : List Value) : FrameBlind (zPreX D cI aK aV sz ws av) := fun a U g mk q => by
  obtain ⟨q0, q1, qP, qE, qD, qX⟩ := q
  exact ⟨q0, q1, qP, zE.same (u := U) (U := U.calling g mk a) rfl qE, qD, zS.same (u := U) (U := U.calling g mk a) rfl qX⟩
def zMiX {S : Type} (l : Launch) (y : MethodName) (c : ByteArray) (maxL : Nat) (ret : Option FieldType) (rm : Room) (D : va_G) (cI : ClassId) (aK aV : Nat) (av : List Value) (ws0 : va_W) (post : Int → S → Prop) (w1 : S → va_W) : Prop := ∀ sz : Nat, Met l y (zW y c maxL ret) rm (zPreX D cI aK aV sz ws0 av) (zQi D sz ws0 post w1) 0 0 (va_A ws0 sz)
def zMlX {S : Type} (l : Launch) (y : MethodName) (c : ByteArray) (maxL : Nat) (ret : Option FieldType) (rm : Room) (D : va_G) (cI : ClassId) (aK aV : Nat) (av : List Value) (ws0 : va_W) (post : Int → S → Prop) (w1 : S → va_W) : Prop := ∀ sz : Nat, Met l y (zW y c maxL ret) rm (zPreX D cI aK aV sz ws0 av) (zQl D sz ws0 post w1) 0 0 (va_A ws0 sz)
def zMvX {S : Type} (l : Launch) (y : MethodName) (c : ByteArray) (maxL : Nat) (ret : Option FieldType) (rm : Room) (D : va_G) (cI : ClassId) (aK aV : Nat) (av : List Value) (ws0 : va_W) (post : S → Prop) (w1 : S → va_W) : Prop := ∀ sz : Nat, Met l y (zW y c maxL ret) rm (zPreX D cI aK aV sz ws0 av) (zQv D sz ws0 post w1) 0 0 (va_A ws0 sz)
def zMrX {S : Type} (l : Launch) (y : MethodName) (c : ByteArray) (maxL : Nat) (ret : Option FieldType) (rm : Room) (D : va_G) (cI : ClassId) (aK aV : Nat) (av : List Value) (ws0 : va_W) (ra : Nat) (post : S → Prop) (w1 : S → va_W) : Prop := ∀ sz : Nat, Met l y (zW y c maxL ret) rm (zPreX D cI aK aV sz ws0 av) (zQr D sz ws0 ra post w1) 0 0 (va_A ws0 sz)
section ZX
variable {p : Program} {l : Launch} {e : Env} {R : Room} {s : State} {m : MethodId} {args : Array Value} {below : List Frame} {meth : Method} {c : Code} {H : Heap} {locs : List Loc} {cells slots : Nat} {Q : State → Prop}
variable {cc : ByteArray} {pc : Nat} {ls : Array Slot} {rest : List Value} {D : va_G} {cI : ClassId} {aK aV : Nat} {nL : Nat} {own : String} {ret : Option FieldType}
theorem zstartX {y : MethodName} {rm : Room} {Pc : Array Value → State → Prop} {Qc : Array Value → State → Outcome → State → Prop} {mc ms : Nat} {free : Addr → Prop} {maxL : Nat} {ws0 : va_W} {sz : Nat} {av : List Value} (hPc : Pc = zPreX D cI aK aV sz ws0 av) (hy : plainName y.cls = true) (hav : (lg_sl av).length ≤ maxL)
    (body : ∀ (p : Program) (e : Env) (s : State) (m : MethodId) (below : List Frame) (meth : Method) (c : Code) (ls : Array Slot), zK p s m av.toArray meth c cc maxL y.cls ret D cI → (y.name = "<init>" → meth.name = "<init>") → s.heap.size = sz → va_P D cls ws0 s.heap → va_D (va_A ws0 sz) ws0 → va_S (va_A ws0 sz) s.heap s.heap [] → lv_has ls maxL (lv_args 0 av) → zS aK aV (va_A ws0 sz) s s.heap →
      W p l e rm s m av.toArray below meth c s.heap [] 0 0 (MQ below Qc av.toArray s mc ms free) (F0 m 0 ls [])) : Met l y (zW y cc maxL ret) rm Pc Qc mc ms free := by
  subst hPc
  refine Met.ofW (cc := cc) (maxL := maxL) (ret := ret) hy rfl ?_
  intro p e s m args below meth c s₁ B hml hv
  obtain ⟨rfl, hsz, hP, hE, hD0, hX⟩ := hv
  have hts := atoms_spec (ws := zW y cc maxL ret) B.pre
  have hl := lv_entry av (n := maxL) hav
  rw [lg_entry_eq]
  refine body p e s m below meth c _ ⟨B.exec, B.bytes, hml, findClass_of_methodNamed B.named, fun w hw => hts w (List.mem_cons_of_mem _ hw), hE, B.returns, B.notSynchronized⟩ (fun h => ?_) hsz hP hD0.self va_S.rf hl hX
  rw [← h]
  exact (name_of_methodNamed B.named B.method).1
theorem zpreX {wc : va_W} {av : List Value} {A A0 : Nat → Prop} (hE : zE D cI s) (hX : zS aK aV A0 s s.heap) (hS : va_S A0 s.heap H locs) (hF : ∀ q, va_A wc H.size q → A0 q) (hPc : va_P D cls wc H) (hDc : va_D A wc) : PreS s H (zPreX D cI aK aV H.size wc av) av :=
  ⟨zPreX_blind _ _ _ _ _ _ _, fun U hU hW => ⟨rfl, by rw [hU], by rw [hU]; exact hPc, zE.warm hW hE, hDc.weaken (fun _ _ _ _ => trivial), by rw [hU]; exact ((hX.kept hS.2.1).narrow hF).warm hW⟩⟩
theorem zrunVX {y : MethodName} {bytes : ByteArray} {maxL n index q0 ci : Nat} {rt : Option FieldType} {rm : Room} {C : String} {T : u_T} {N : Nat} {fs : List Value} {b : Addr} {As : List Value} {wc : va_W} {Qc : Array Value → State → Outcome → State → Prop} {A : Nat → Prop} {st : List Value}
    (hK : zK p s m args meth c cc nL own ret D cI) (hY : zYv C y bytes maxL rt n) (hl : Cond.methodLink own index y ∈ TT) (hR : zRoom R rm maxL) (hcl : cls[ci]? = some (C, T, N)) (hq : wc[q0]? = some (b, .inr (ci, fs))) {A0 : Nat → Prop} (hX : zS aK aV A0 s s.heap) (hS : va_S A0 s.heap H locs) (hF : ∀ q, va_A wc H.size q → A0 q) (hPc : va_P D cls wc H) (hDc : va_D A wc)
    (hM : Met l y (zW y bytes maxL rt) rm (zPreX D cI aK aV H.size wc (.ref b :: As)) Qc 0 0 (va_A wc H.size)) (hn : As.length = n) (hsz : ls.size = nL) (hst : st = As.reverse ++ .ref b :: rest) (hW : (rest.map fun v => v.category).sum ≤ 8) (hdg : decode cc pc = .ok (.invokevirtual index, 3)) (hf : cells ≤ R.cells ∧ slots ≤ R.slots) :
    va_Run p l e R s m args below meth c H locs cells slots 0 0 (F0 m pc ls st) rest (Qc (Value.ref b :: As).toArray) (va_A wc H.size) := by
  obtain ⟨hx, hb, hml, hown, hts, hE, hr, hlocks⟩ := hK
  obtain ⟨hc, hin, hsel, hini, hd⟩ := hY
  have hb1 := callB_of (R := R) (rm := rm) (ws := zW y bytes maxL rt) (ws' := TT) n hts (TT_GoodIn hc) rfl hR.1.1 hR.1.2 (hts _ hini) (hts _ hl) hd hR.2
  exact va_runV ⟨hx, hb, hml, hown, hts⟩ hM ⟨hb1, hts _ hin, hts _ hsel⟩ ⟨(zpreX hE hX hS hF hPc hDc).1, va_recv hE.1 hPc hcl hq, (zpreX hE hX hS hF hPc hDc).2⟩ rfl hn hsz hst (lv_room (m := m) (pc := pc) (ls := ls) (rest := st) hW) hdg hf
theorem zrunVXN {y : MethodName} {bytes : ByteArray} {maxL n index q0 ci : Nat} {rt : Option FieldType} {rm : Room} {C host : String} {T : u_T} {N : Nat} {fs : List Value} {b : Addr} {As : List Value} {wc : va_W} {Qc : Array Value → State → Outcome → State → Prop} {A : Nat → Prop} {st : List Value}
    (hK : zK p s m args meth c cc nL own ret D cI) (hY : zYv C y bytes maxL rt n) (hl : Cond.methodLinkNest own index y host ∈ tables_1) (hR : zRoom R rm maxL) (hcl : cls[ci]? = some (C, T, N)) (hq : wc[q0]? = some (b, .inr (ci, fs))) {A0 : Nat → Prop} (hX : zS aK aV A0 s s.heap) (hS : va_S A0 s.heap H locs) (hF : ∀ q, va_A wc H.size q → A0 q) (hPc : va_P D cls wc H) (hDc : va_D A wc)
    (hM : Met l y (zW y bytes maxL rt) rm (zPreX D cI aK aV H.size wc (.ref b :: As)) Qc 0 0 (va_A wc H.size)) (hn : As.length = n) (hsz : ls.size = nL) (hst : st = As.reverse ++ .ref b :: rest) (hW : (rest.map fun v => v.category).sum ≤ 8) (hdg : decode cc pc = .ok (.invokevirtual index, 3)) (hf : cells ≤ R.cells ∧ slots ≤ R.slots) :
    va_Run p l e R s m args below meth c H locs cells slots 0 0 (F0 m pc ls st) rest (Qc (Value.ref b :: As).toArray) (va_A wc H.size) := by
  obtain ⟨hx, hb, hml, hown, hts, hE, hr, hlocks⟩ := hK
  obtain ⟨hc, hin, hsel, hini, hd⟩ := hY
  have hb1 := va_cnB (R := R) (rm := rm) (ws := zW y bytes maxL rt) (ws' := TT) n hts (TT_GoodIn hc) rfl hR.1.1 hR.1.2 (hE.2 _ hl rfl) (hts _ hini) hd hR.2
  exact va_runVN ⟨hx, hb, hml, hown, hts⟩ hM ⟨hb1, hts _ hin, hts _ hsel⟩ ⟨(zpreX hE hX hS hF hPc hDc).1, va_recv hE.1 hPc hcl hq, (zpreX hE hX hS hF hPc hDc).2⟩ rfl hn hsz hst (lv_room (m := m) (pc := pc) (ls := ls) (rest := st) hW) hdg hf
theorem zrunSX {y : MethodName} {bytes : ByteArray} {maxL n index : Nat} {rt : Option FieldType} {rm : Room} {As : List Value} {wc : va_W} {Qc : Array Value → State → Outcome → State → Prop} {A : Nat → Prop} {st : List Value}
    (hK : zK p s m args meth c cc nL own ret D cI) (hY : zYs y bytes maxL rt n) (hl : Cond.methodLink own index y ∈ TT) (hR : zRoom R rm maxL) {A0 : Nat → Prop} (hX : zS aK aV A0 s s.heap) (hS : va_S A0 s.heap H locs) (hF : ∀ q, va_A wc H.size q → A0 q) (hPc : va_P D cls wc H) (hDc : va_D A wc)
    (hM : Met l y (zW y bytes maxL rt) rm (zPreX D cI aK aV H.size wc As) Qc 0 0 (va_A wc H.size)) (hn : As.length = n) (hsz : ls.size = nL) (hst : st = As.reverse ++ rest) (hW : (rest.map fun v => v.category).sum ≤ 8) (hdg : decode cc pc = .ok (.invokestatic index, 3)) (hf : cells ≤ R.cells ∧ slots ≤ R.slots) :
    va_Run p l e R s m args below meth c H locs cells slots 0 0 (F0 m pc ls st) rest (Qc As.toArray) (va_A wc H.size) := by
  obtain ⟨hx, hb, hml, hown, hts, hE, hr, hlocks⟩ := hK
  obtain ⟨hc, hstt, hini, hd⟩ := hY
  have hb1 := callB_of (R := R) (rm := rm) (ws := zW y bytes maxL rt) (ws' := TT) n hts (TT_GoodIn hc) rfl hR.1.1 hR.1.2 (hts _ hini) (hts _ hl) hd hR.2
  exact va_runS ⟨hx, hb, hml, hown, hts⟩ hM ⟨hb1, hts _ hstt⟩ (zpreX hE hX hS hF hPc hDc) rfl hn hsz hst (lv_room (m := m) (pc := pc) (ls := ls) (rest := st) hW) hdg hf
theorem zrunVXs {y : MethodName} {bytes : ByteArray} {maxL n index : Nat} {rt : Option FieldType} {rm : Room} {As : List Value} {wc : va_W} {Qc : Array Value → State → Outcome → State → Prop} {A : Nat → Prop} {st : List Value}
    (hK : zK p s m args meth c cc nL own ret D cI) (hY : zYv "java/lang/String" y bytes maxL rt n) (hl : Cond.methodLink own index y ∈ TT) (hR : zRoom R rm maxL) {A0 : Nat → Prop} (hX : zS aK aV A0 s s.heap) (hS : va_S A0 s.heap H locs) (hF : ∀ q, va_A wc H.size q → A0 q) (hPc : va_P D cls wc H) (hDc : va_D A wc)
    (hM : Met l y (zW y bytes maxL rt) rm (zPreX D cI aK aV H.size wc (.ref aK :: As)) Qc 0 0 (va_A wc H.size)) (hn : As.length = n) (hsz : ls.size = nL) (hst : st = As.reverse ++ .ref aK :: rest) (hW : (rest.map fun v => v.category).sum ≤ 8) (hdg : decode cc pc = .ok (.invokevirtual index, 3)) (hf : cells ≤ R.cells ∧ slots ≤ R.slots) :
    va_Run p l e R s m args below meth c H locs cells slots 0 0 (F0 m pc ls st) rest (Qc (Value.ref aK :: As).toArray) (va_A wc H.size) := by
  obtain ⟨hx, hb, hml, hown, hts, hE, hr, hlocks⟩ := hK
  obtain ⟨hc, hin, hsel, hini, hd⟩ := hY
  have hb1 := callB_of (R := R) (rm := rm) (ws := zW y bytes maxL rt) (ws' := TT) n hts (TT_GoodIn hc) rfl hR.1.1 hR.1.2 (hts _ hini) (hts _ hl) hd hR.2
  exact va_runV ⟨hx, hb, hml, hown, hts⟩ hM ⟨hb1, hts _ hin, hts _ hsel⟩ ⟨(zpreX hE hX hS hF hPc hDc).1, va_Orecv hX.2.2.1 hS, (zpreX hE hX hS hF hPc hDc).2⟩ rfl hn hsz hst (lv_room (m := m) (pc := pc) (ls := ls) (rest := st) hW) hdg hf
theorem z_yret (hK : zK p s m args meth c cc nL own (some .byte) D cI) {S : Type} {ws0 : va_W} {sz : Nat} {post : Int → S → Prop} {w1 : S → va_W} (hS : va_S (va_A ws0 sz) s.heap H locs) {z : Int} (u : S) (hp : post z u) (hz : z = 0) (hP : va_P D cls (w1 u) H) (hD : va_D (va_A ws0 sz) (w1 u)) (hdg : decode cc pc = .ok (.ireturn, 1)) : W p l e R s m args below meth c H locs cells slots (MQ below (zQi D sz ws0 post w1) args s cells slots (va_A ws0 sz)) (F0 m pc ls [.int (zI z)]) := by
  obtain ⟨hx, hb, _, _, _, _, hr, hlocks⟩ := hK
  exact W.zret hx hb hr (by subst hz; decide) (fun t ht hW => ⟨⟨zI z, u, rfl, ⟨z, rfl, hp⟩, by rw [← ht] at hP; exact hP, hD⟩, hS.F ht⟩) hS.2.2 hdg
theorem zc_ok : ∀ x : Fin 128, ((zI ((x.val : Nat) : Int)).toUInt32 % 65536).toInt32 = zI ((x.val : Nat) : Int) ∧ (zI ((x.val : Nat) : Int)).toInt8.toInt32 = zI ((x.val : Nat) : Int) := by decide +kernel
theorem z_i2c (hx : p.tables.exec = Jvm.exec) (hb : c.code = cc) {x : Int} (n : Nat) (hn : x = (n : Int) ∧ n < 128) (hdg : decode cc pc = .ok (.i2c, 1)) (k : W p l e R s m args below meth c H locs cells slots Q (F0 m (pc + 1) ls (.int (zI x) :: rest))) : W p l e R s m args below meth c H locs cells slots Q (F0 m pc ls (.int (zI x) :: rest)) := by
  obtain ⟨rfl, h⟩ := hn
  exact lv_i2c hx hb hdg (zc_ok ⟨n, h⟩).1 k
theorem z_i2b (hx : p.tables.exec = Jvm.exec) (hb : c.code = cc) {x : Int} (n : Nat) (hn : x = (n : Int) ∧ n < 128) (hdg : decode cc pc = .ok (.i2b, 1)) (k : W p l e R s m args below meth c H locs cells slots Q (F0 m (pc + 1) ls (.int (zI x) :: rest))) : W p l e R s m args below meth c H locs cells slots Q (F0 m pc ls (.int (zI x) :: rest)) := by
  obtain ⟨rfl, h⟩ := hn
  exact lv_i2b hx hb hdg (zc_ok ⟨n, h⟩).2 k
theorem z_bald (hx : p.tables.exec = Jvm.exec) (hb : c.code = cc) {A : Nat → Prop} (hX : zS aK aV A s s.heap) (hS : va_S A s.heap H locs) (n : Nat) (hn : n < 5) (hdg : decode cc pc = .ok (.baload, 1)) (k : W p l e R s m args below meth c H locs cells slots Q (F0 m (pc + 1) ls (.int (zI (zby n)) :: rest))) : W p l e R s m args below meth c H locs cells slots Q (F0 m pc ls (.int (zI (n : Int)) :: .ref aV :: rest)) :=
  va_tb hx hb hX.2.2.2.2.2 hS (zI_in hn (by omega)) (by rw [zI_clamp (by omega)]) hdg k
theorem z_blen (hx : p.tables.exec = Jvm.exec) (hb : c.code = cc) {A : Nat → Prop} (hX : zS aK aV A s s.heap) (hS : va_S A s.heap H locs) (hdg : decode cc pc = .ok (.arraylength, 1)) (k : W p l e R s m args below meth c H locs cells slots Q (F0 m (pc + 1) ls (.int (zI 5) :: rest))) : W p l e R s m args below meth c H locs cells slots Q (F0 m pc ls (.ref aV :: rest)) :=
  va_tlen hx hb hX.2.2.2.2.2 hS (v := zI 5) rfl hdg k
end ZX
theorem zby_r (j : Nat) : 0 ≤ zby j ∧ zby j ≤ 127 := by
  unfold zby
  repeat' split
  all_goals omega
theorem kd_hit {c : Int} {j : Nat} (h : j < 5) (e : zby j = c) : kdB c = (j : Int) := by
  subst e
  rcases (show j = 0 ∨ j = 1 ∨ j = 2 ∨ j = 3 ∨ j = 4 by omega) with rfl | rfl | rfl | rfl | rfl <;> rfl
theorem kd_miss {c : Int} (h : ∀ i, i < 5 → zby i ≠ c) : kdB c = -1 := by
  have h0 := h 0 (by omega)
  have h1 := h 1 (by omega)
  have h2 := h 2 (by omega)
  have h3 := h 3 (by omega)
  have h4 := h 4 (by omega)
  simp only [zby] at h0 h1 h2 h3 h4
  simp at h0 h1 h2 h3 h4
  unfold kdB
  rw [if_neg (by omega), if_neg (by omega), if_neg (by omega), if_neg (by omega), if_neg (by omega)]
theorem kdB_r (c : Int) : -1 ≤ kdB c ∧ kdB c ≤ 4 := by
  unfold kdB
  repeat' split
  all_goals omega
/-! which letter may stand where -/
def okB (lt : Nat → Nat) (i : Nat) : Bool :=
  if 20 ≤ i then false else if i = 0 then decide (lt 0 = 48 ∨ lt 0 = 49) else if i = 1 then (if lt 0 = 48 then decide (50 ≤ lt 1 ∧ lt 1 ≤ 57) else decide (48 ≤ lt 1 ∧ lt 1 ≤ 50)) else if i = 2 then decide (lt 2 = 59) else if i % 3 = 0 then decide (0 ≤ kdB (lt i)) else if i % 3 = 1 then decide (48 ≤ lt i ∧ lt i ≤ 57) else decide (lt i = 44)
theorem okB_20 {lt : Nat → Nat} {i : Nat} (h : 20 ≤ i) : okB lt i = false := by unfold okB; rw [if_pos h]
theorem okB_0 {lt : Nat → Nat} : okB lt 0 = decide (lt 0 = 48 ∨ lt 0 = 49) := rfl
theorem okB_1 {lt : Nat → Nat} : okB lt 1 = if lt 0 = 48 then decide (50 ≤ lt 1 ∧ lt 1 ≤ 57) else decide (48 ≤ lt 1 ∧ lt 1 ≤ 50) := rfl
theorem okB_2 {lt : Nat → Nat} : okB lt 2 = decide (lt 2 = 59) := rfl
theorem okB_k {lt : Nat → Nat} {i : Nat} (h : 3 ≤ i) (h2 : i < 20) (h3 : i % 3 = 0) : okB lt i = decide (0 ≤ kdB (lt i)) := by unfold okB; rw [if_neg (by omega), if_neg (by omega), if_neg (by omega), if_neg (by omega), if_pos h3]
theorem okB_n {lt : Nat → Nat} {i : Nat} (h : 3 ≤ i) (h2 : i < 20) (h3 : i % 3 = 1) : okB lt i = decide (48 ≤ lt i ∧ lt i ≤ 57) := by unfold okB; rw [if_neg (by omega), if_neg (by omega), if_neg (by omega), if_neg (by omega), if_neg (by omega), if_pos h3]
theorem okB_c {lt : Nat → Nat} {i : Nat} (h : 3 ≤ i) (h2 : i < 20) (h3 : i % 3 = 2) : okB lt i = decide (lt i = 44) := by unfold okB; rw [if_neg (by omega), if_neg (by omega), if_neg (by omega), if_neg (by omega), if_neg (by omega), if_neg (by omega)]
def fFau (pl : Nat) (lt : Nat → Nat) : Nat := fa_first (fun i => !okB lt i) pl
abbrev rOk (pl : Nat) (lt : Nat → Nat) : Prop := 5 ≤ pl ∧ pl % 3 = 2 ∧ fFau pl lt = pl
def roN (lt : Nat → Nat) : Nat := 10 * (lt 0 - 48) + lt 1 - 48
def roK (pl : Nat) : Nat := (pl - 2) / 3
def roκ (lt : Nat → Nat) (q : Nat) : Nat := (kdB (lt (3 + 3 * q))).toNat
def roν (lt : Nat → Nat) (q : Nat) : Nat := lt (4 + 3 * q) - 48
theorem rOk_all {pl : Nat} {lt : Nat → Nat} (h : rOk pl lt) : ∀ i, i < pl → okB lt i = true := by
  intro i hi
  have h1 := fa_first_no (fun i => !okB lt i) pl i (by have := h.2.2; unfold fFau at this; omega)
  simpa using h1
theorem rOk_20 {pl : Nat} {lt : Nat → Nat} (h : rOk pl lt) : pl ≤ 20 := by
  rcases Nat.lt_or_ge 20 pl with h1 | h1
  · have h2 := rOk_all h 20 h1
    rw [okB_20 (by omega)] at h2; cases h2
  · exact h1
theorem rOk_01 {pl : Nat} {lt : Nat → Nat} (h : rOk pl lt) : (lt 0 = 48 ∧ 50 ≤ lt 1 ∧ lt 1 ≤ 57) ∨ (lt 0 = 49 ∧ 48 ≤ lt 1 ∧ lt 1 ≤ 50) := by
  have h0 := rOk_all h 0 (by have := h.1; omega)
  have h1 := rOk_all h 1 (by have := h.1; omega)
  rw [okB_0] at h0
  rw [okB_1] at h1
  have h0 := of_decide_eq_true h0
  by_cases e : lt 0 = 48
  · rw [if_pos e] at h1; have h1 := of_decide_eq_true h1; omega
  · rw [if_neg e] at h1; have h1 := of_decide_eq_true h1; omega
theorem rOk_n {pl : Nat} {lt : Nat → Nat} (h : rOk pl lt) : 2 ≤ roN lt ∧ roN lt ≤ 12 := by have := rOk_01 h; unfold roN; omega
theorem rOk_k {pl : Nat} {lt : Nat → Nat} (h : rOk pl lt) : 1 ≤ roK pl ∧ roK pl ≤ 6 ∧ 3 * roK pl + 2 = pl := by have := rOk_20 h; have := h.1; have := h.2.1; unfold roK; omega
theorem rOk_κ {pl : Nat} {lt : Nat → Nat} (h : rOk pl lt) {q : Nat} (hq : q < roK pl) : kdB ((lt (3 + 3 * q) : Nat) : Int) = ((roκ lt q : Nat) : Int) ∧ roκ lt q ≤ 4 := by
  have hk := rOk_k h
  have h20 := rOk_20 h
  have h1 := rOk_all h (3 + 3 * q) (by omega)
  rw [okB_k (by omega) (by omega) (by omega)] at h1
  have h1 := of_decide_eq_true h1
  have h2 := kdB_r ((lt (3 + 3 * q) : Nat) : Int)
  unfold roκ; omega
theorem rOk_ν {pl : Nat} {lt : Nat → Nat} (h : rOk pl lt) {q : Nat} (hq : q < roK pl) : ((lt (4 + 3 * q) : Nat) : Int) - 48 = ((roν lt q : Nat) : Int) ∧ roν lt q ≤ 9 := by
  have hk := rOk_k h
  have h20 := rOk_20 h
  have h1 := rOk_all h (4 + 3 * q) (by omega)
  rw [okB_n (by omega) (by omega) (by omega)] at h1
  have h1 := of_decide_eq_true h1
  unfold roν; omega
theorem TI_ro {pl : Nat} {lt : Nat → Nat} (h : rOk pl lt) {o0 o1 o2 o3 g4 g5 g6 : Nat → Int} {ss sf st : Nat → Nat} (h0 : ∀ j, j < roK pl → o0 j = ((roκ lt j : Nat) : Int)) (h1 : ∀ j, j < roK pl → o1 j = ((roν lt j : Nat) : Int)) (h2 : ∀ q i, q < roK pl → i < roN lt → o2 (q * 12 + i) = ((mus (roN lt) (roκ lt) (roν lt) q i : Nat) : Int)) (h3 : ∀ j, j < roN lt → o3 j = (j : Int)) : TI (roN lt) (roK pl) 0 0 o0 o1 o2 o3 g4 g5 g6 (roκ lt) (roν lt) (fun j => j) ss sf st := by
  have hn := rOk_n h
  have hk := rOk_k h
  exact ⟨Or.inr ⟨hn.1, hn.2, hk.1, hk.2.1⟩, by omega, by omega, h0, fun j hj => (rOk_κ h hj).2, h1, fun j hj => (rOk_ν h hj).2, h2, h3, fun j hj => hj, fun a b h1 _ h2 => by dsimp only at h2; omega, fun j hj => by omega, fun j hj => by omega, fun j hj => by omega, fun j hj => by omega, fun j hj => by omega, fun j hj => by omega⟩
theorem MI_ro {pl : Nat} {lt : Nat → Nat} (h : rOk pl lt) {o0 o1 o3 gq : Nat → Int} {ss sf st : Nat → Nat} (h0 : ∀ j, j < roK pl → o0 j = ((roκ lt j : Nat) : Int)) (h1 : ∀ j, j < roK pl → o1 j = ((roν lt j : Nat) : Int)) (h3 : ∀ j, j < roN lt → o3 j = (j : Int)) : MI (roN lt) (roK pl) 0 0 o0 o1 o3 gq (roκ lt) (roν lt) (fun j => j) ss sf st := by
  have hn := rOk_n h
  have hk := rOk_k h
  exact ⟨Or.inr ⟨hn.1, hn.2, hk.1, hk.2.1⟩, by omega, by omega, h0, fun j hj => (rOk_κ h hj).2, h1, fun j hj => (rOk_ν h hj).2, h3, fun j hj => hj, fun a b h1 _ h2 => by dsimp only at h2; omega, fun j hj => by omega, fun j hj => by omega, fun j hj => by omega, fun j hj => by omega, fun j hj => by omega, fun j hj => by omega⟩
theorem b01_B {b : Bool} {P : Prop} [Decidable P] (h : b = decide P) : b01 (b = true) = b01 P := by subst h; simp [b01]
theorem kd0 {c : Int} : kdB c = -1 ↔ ¬ 0 ≤ kdB c := by have := kdB_r c; omega
theorem k_J0_coder_7d493 : zYv RJ0 yJ0_coder_7d493 cJ0_coder_7d493 1 (some .byte) 0 := ⟨qc_J0_coder_7d493, qi_J0_coder_7d493, ql_J0_coder_7d493, qn_J0, ⟨by decide, by decide, by decide +kernel⟩⟩
theorem k_J0_indexOf_0f7a4 : zYv RJ0 yJ0_indexOf_0f7a4 cJ0_indexOf_0f7a4 2 (some .int) 1 := ⟨qc_J0_indexOf_0f7a4, qi_J0_indexOf_0f7a4, ql_J0_indexOf_0f7a4, qn_J0, ⟨by decide, by decide, by decide +kernel⟩⟩
theorem k_J0_indexOf_7cf53 : zYv RJ0 yJ0_indexOf_7cf53 cJ0_indexOf_7cf53 3 (some .int) 2 := ⟨qc_J0_indexOf_7cf53, qi_J0_indexOf_7cf53, ql_J0_indexOf_7cf53, qn_J0, ⟨by decide, by decide, by decide +kernel⟩⟩
theorem k_J0_isLatin1_aae02 : zYv RJ0 yJ0_isLatin1_aae02 cJ0_isLatin1_aae02 1 (some .boolean) 0 := ⟨qc_J0_isLatin1_aae02, qi_J0_isLatin1_aae02, ql_J0_isLatin1_aae02, qn_J0, ⟨by decide, by decide, by decide +kernel⟩⟩
theorem k_J0_length_8abf5 : zYv RJ0 yJ0_length_8abf5 cJ0_length_8abf5 1 (some .int) 0 := ⟨qc_J0_length_8abf5, qi_J0_length_8abf5, ql_J0_length_8abf5, qn_J0, ⟨by decide, by decide, by decide +kernel⟩⟩
theorem k_J1_canEncode_9a6ad : zYs yJ1_canEncode_9a6ad cJ1_canEncode_9a6ad 1 (some .boolean) 1 := ⟨qc_J1_canEncode_9a6ad, qs_J1_canEncode_9a6ad, qn_J1, ⟨by decide, by decide, by decide +kernel⟩⟩
theorem k_J1_indexOfChar_4cfef : zYs yJ1_indexOfChar_4cfef cJ1_indexOfChar_4cfef 6 (some .int) 4 := ⟨qc_J1_indexOfChar_4cfef, qs_J1_indexOfChar_4cfef, qn_J1, ⟨by decide, by decide, by decide +kernel⟩⟩
theorem k_J1_indexOf_4cfef : zYs yJ1_indexOf_4cfef cJ1_indexOf_4cfef 4 (some .int) 4 := ⟨qc_J1_indexOf_4cfef, qs_J1_indexOf_4cfef, qn_J1, ⟨by decide, by decide, by decide +kernel⟩⟩
