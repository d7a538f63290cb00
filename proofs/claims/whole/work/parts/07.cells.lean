abbrev cP (h : Nat) (a : Nat) (pl : Int) : Nat × va_E := (h, .inr (0, [.ref a, .int (zI pl)]))
abbrev cT (h : Nat) (a : Nat → Nat) (n : Int) (k : Int) (d : Int) (v : Int) : Nat × va_E := (h, .inr (1, [.int (zI n), .int (zI k), .int (zI d), .int (zI v), .ref (a 0), .ref (a 1), .ref (a 2), .ref (a 3), .ref (a 4), .ref (a 5), .ref (a 6)]))
abbrev cW (h : Nat) (a : Nat) (n : Int) : Nat × va_E := (h, .inr (2, [.int (zI n), .ref a]))
abbrev cX (h : Nat) (b : Nat → Nat) (ik : Int) (rr : Int) (hc : Int) : Nat × va_E := (h, .inr (3, [.ref (b 0), .ref (b 1), .ref (b 2), .int (zI ik), .int (zI rr), .int (zI hc), .ref (b 3), .ref (b 4), .ref (b 5), .ref (b 6)]))
abbrev cM (h : Nat) (b : Nat → Nat) (pm : Int) (n : Int) (k : Int) (d : Int) (rr : Int) (hd : Int) (sm : Int) (kr : Int) (kd : Int) (ks : Int) (s0 : Int) (s1 : Int) (s2 : Int) (s3 : Int) (s4 : Int) (s5 : Int) (hs : Int) : Nat × va_E := (h, .inr (4, [.ref (b 0), .int (zI pm), .int (zI n), .int (zI k), .int (zI d), .int (zI rr), .ref (b 1), .ref (b 2), .ref (b 3), .ref (b 4), .int (zI s0), .int (zI s1), .int (zI s2), .int (zI s3), .ref (b 5), .ref (b 6), .ref (b 7), .int (zI hd), .int (zI s4), .ref (b 8), .ref (b 9), .int (zI sm), .ref (b 10), .int (zI s5), .int (zI kr), .int (zI kd), .int (zI ks), .ref (b 11), .ref (b 12), .ref (b 13), .ref (b 14), .long (zL hs)]))
abbrev cR (cI : ClassId) (a n : Nat) (g : Nat → Int) : Nat × va_E := (a, .inl (cI, n, .inl (zA g)))
/-- what a copy of the first n places makes -/
def zcp (f g : Nat → Int) (n : Nat) : Nat → Int := fun j => if j < n then f j else g j
theorem zcp_lt {f g : Nat → Int} {n j : Nat} (h : j < n) : zcp f g n j = f j := if_pos h
theorem zcp_ge {f g : Nat → Int} {n j : Nat} (h : n ≤ j) : zcp f g n j = g j := if_neg (Nat.not_lt.mpr h)
theorem zA_cp (f g : Nat → Int) (n : Nat) : va_cpy (zA f) (zA g) 0 0 n = zA (zcp f g n) := by
  funext j
  by_cases h : j < n
  · rw [pk_cpy_in (Nat.zero_le _) (by omega)]
    show zI (f (0 + (j - 0))) = zI (zcp f g n j)
    rw [zcp_lt h]; congr 2; omega
  · rw [pk_cpy_out (by omega)]
    show zI (g j) = zI (zcp f g n j)
    rw [zcp_ge (by omega)]
section Z3
variable {p : Program} {l : Launch} {e : Env} {R : Room} {s : State} {m : MethodId} {args : Array Value} {below : List Frame} {meth : Method} {c : Code} {H : Heap} {locs : List Loc} {cells slots : Nat} {Q : State → Prop}
variable {cc : ByteArray} {pc : Nat} {ls : Array Slot} {rest : List Value} {D : va_G} {cI : ClassId} {nL : Nat} {own : String} {ret : Option FieldType}
theorem z_Mmax (hx : p.tables.exec = Jvm.exec) (hb : c.code = cc) (hml : c.maxLocals = ls.size) {own : String} {index : Nat} (hown : s.vm.findClass own = some m.cls) (hlink : (Cond.methodLink own index Lib.Math.max.name).before args s = true) (hstat : (Cond.static Lib.Math.max.name).before args s = true) (hini : (Cond.initialized "java/lang/Math").before args s = true) (hcode : (Cond.code Lib.Math.max.name Lib.Math.max.code 2 (some .int)).before args s = true)
    (hframes : 1 ≤ R.frames) (hlocals : (rest.map fun v => v.category).sum + 13 ≤ R.locals) (hc : cells ≤ R.cells) (hs : slots ≤ R.slots) {a b : Int} (hr : (-2147483648 ≤ a ∧ a < 2147483648) ∧ (-2147483648 ≤ b ∧ b < 2147483648)) (v : Int) (hv : (if a < b then b else a) = v) (hdg : decode cc pc = .ok (.invokestatic index, 3))
    (kk : W p l e R s m args below meth c H locs cells slots Q (F0 m (pc + 3) ls (.int (zI v) :: rest))) : W p l e R s m args below meth c H locs cells slots Q (F0 m pc ls (.int (zI b) :: .int (zI a) :: rest)) := by
  refine va_mmax hx hb hml hown hlink hstat hini hcode hframes hlocals hc hs hdg ?_
  have e1 : (if zI a < zI b then zI b else zI a) = zI v := by
    rw [← hv]
    by_cases h : a < b
    · rw [if_pos h, if_pos ((zI_lt hr.1 hr.2).mpr h)]
    · rw [if_neg h, if_neg (fun h2 => h ((zI_lt hr.1 hr.2).mp h2))]
  rw [e1]; exact kk
theorem z_Mmin (hx : p.tables.exec = Jvm.exec) (hb : c.code = cc) (hml : c.maxLocals = ls.size) {own : String} {index : Nat} (hown : s.vm.findClass own = some m.cls) (hlink : (Cond.methodLink own index Lib.Math.min.name).before args s = true) (hstat : (Cond.static Lib.Math.min.name).before args s = true) (hini : (Cond.initialized "java/lang/Math").before args s = true) (hcode : (Cond.code Lib.Math.min.name Lib.Math.min.code 2 (some .int)).before args s = true)
    (hframes : 1 ≤ R.frames) (hlocals : (rest.map fun v => v.category).sum + 13 ≤ R.locals) (hc : cells ≤ R.cells) (hs : slots ≤ R.slots) {a b : Int} (hr : (-2147483648 ≤ a ∧ a < 2147483648) ∧ (-2147483648 ≤ b ∧ b < 2147483648)) (v : Int) (hv : (if a < b then a else b) = v) (hdg : decode cc pc = .ok (.invokestatic index, 3))
    (kk : W p l e R s m args below meth c H locs cells slots Q (F0 m (pc + 3) ls (.int (zI v) :: rest))) : W p l e R s m args below meth c H locs cells slots Q (F0 m pc ls (.int (zI b) :: .int (zI a) :: rest)) := by
  refine va_mmin hx hb hml hown hlink hstat hini hcode hframes hlocals hc hs hdg ?_
  have e2 := zI_lt hr.1 hr.2
  have e3 := zI_le hr.1 hr.2
  have e4 := zI_lt hr.2 hr.1
  first
    | (have e1 : (if zI a < zI b then zI a else zI b) = zI v := by
         rw [← hv]
         by_cases h : a < b
         · rw [if_pos h, if_pos (e2.mpr h)]
         · rw [if_neg h, if_neg (fun h2 => h (e2.mp h2))]
       rw [e1]; exact kk)
    | (have e1 : (if zI b < zI a then zI b else zI a) = zI v := by
         rw [← hv]
         by_cases h : b < a
         · rw [if_pos (e4.mpr h), if_neg (by omega)]
         · rw [if_neg (fun h2 => h (e4.mp h2))]
           by_cases h3 : a < b
           · rw [if_pos h3]
           · rw [if_neg h3]; congr 1; omega
       rw [e1]; exact kk)
    | (have e1 : (if zI a ≤ zI b then zI a else zI b) = zI v := by
         rw [← hv]
         by_cases h : a ≤ b
         · rw [if_pos (e3.mpr h)]
           by_cases h3 : a < b
           · rw [if_pos h3]
           · rw [if_neg h3]; congr 1; omega
         · rw [if_neg (fun h2 => h (e3.mp h2)), if_neg (by omega)]
       rw [e1]; exact kk)
theorem z_fit (x : Int32) : fits .int (.int x) = true := rfl
theorem z_copy (hx : p.tables.exec = Jvm.exec) (hb : c.code = cc) (hml : c.maxLocals = ls.size) {own : String} {index : Nat} (hown : s.vm.findClass own = some m.cls) (hlink : (Cond.methodLink own index arraycopyName).before args s = true) (hnat : (Cond.native arraycopyName).before args s = true) (hstat : (Cond.static arraycopyName).before args s = true) (hini : (Cond.initialized "java/lang/System").before args s = true)
    (hE : zE D cI s) {ws : va_W} {A : Nat → Prop} {H0 : Heap} (hP : va_P D cls ws H) (hD : va_D A ws) (hS : va_S A H0 H locs) (q0 q1 : Nat) {a0 a n0 n1 : Nat} {f g : Nat → Int} (ha0 : ws[q0]? = some (a0, .inl (cI, n0, .inl (zA f)))) (ha1 : ws[q1]? = some (a, .inl (cI, n1, .inl (zA g))))
    {z : Int} (n : Nat) (hz : z = (n : Int)) (hn : n ≤ n0 ∧ n ≤ n1) (h0 : n0 < 2147483648) (h1 : n1 < 2147483648)
    (hframes : 1 ≤ R.frames) (hlocals : (rest.map fun v => v.category).sum + (nativeFrameWords "java/lang/System" "arraycopy" 5 + 11) ≤ R.locals) (g' : Nat → Int) (hg : zcp f g n = g') (hdg : decode cc pc = .ok (.invokestatic index, 3))
    (kk : ∀ (H1 : Heap) (locs1 : List Loc), va_P D cls (ws.set q1 (a, .inl (cI, n1, .inl (zA g')))) H1 → va_D A (ws.set q1 (a, .inl (cI, n1, .inl (zA g')))) → va_S A H0 H1 locs1 → W p l e R s m args below meth c H1 locs1 cells slots Q (F0 m (pc + 3) ls rest)) : W p l e R s m args below meth c H locs cells slots Q (F0 m pc ls (.int (zI z) :: .int (zI 0) :: .ref a :: .int (zI 0) :: .ref a0 :: rest)) := by
  subst hz
  subst hg
  have e0 : (zI 0).toNatClampNeg = 0 := rfl
  have en : (zI (n : Int)).toNatClampNeg = n := zI_clamp (by omega)
  have h00 : ¬ zI 0 < 0 := by decide
  have hn0 : ¬ zI (n : Int) < 0 := fun h => by
    have := (zI_lt (a := (n : Int)) (b := 0) (by omega) (by omega)).mp h
    omega
  refine va_copyi hx hb hml hown hlink hnat hstat hini hE.1 hP hD hS q0 q1 0 0 ha0 ha1 rfl rfl rfl h00 h00 hn0 (by rw [e0, en]; omega) (by rw [e0, en]; omega) (fun i _ => z_fit _) hframes hlocals hdg fun H1 locs1 p1 p2 p3 => ?_
  rw [e0, en, zA_cp] at p1 p2
  exact kk H1 locs1 p1 p2 p3
end Z3
theorem k_X0_init : zYi yX0_init cX0_init 1 0 := ⟨qc_X0_init, qi_X0_init, qn_X0, rfl, ⟨by decide, by decide, by decide +kernel⟩⟩
theorem k_X0_append : zYv RX0 yX0_append cX0_append 2 none 1 := ⟨qc_X0_append, qi_X0_append, ql_X0_append, qn_X0, ⟨by decide, by decide, by decide +kernel⟩⟩
theorem k_X0_clear : zYv RX0 yX0_clear cX0_clear 2 (some .int) 0 := ⟨qc_X0_clear, qi_X0_clear, ql_X0_clear, qn_X0, ⟨by decide, by decide, by decide +kernel⟩⟩
theorem k_X0_firstWrong : zYv RX0 yX0_firstWrong cX0_firstWrong 2 (some .int) 0 := ⟨qc_X0_firstWrong, qi_X0_firstWrong, ql_X0_firstWrong, qn_X0, ⟨by decide, by decide, by decide +kernel⟩⟩
theorem k_X0_isRoutine : zYv RX0 yX0_isRoutine cX0_isRoutine 2 (some .boolean) 0 := ⟨qc_X0_isRoutine, qi_X0_isRoutine, ql_X0_isRoutine, qn_X0, ⟨by decide, by decide, by decide +kernel⟩⟩
theorem k_X0_mayStand : zYv RX0 yX0_mayStand cX0_mayStand 3 (some .boolean) 1 := ⟨qc_X0_mayStand, qi_X0_mayStand, ql_X0_mayStand, qn_X0, ⟨by decide, by decide, by decide +kernel⟩⟩
theorem k_X0_mayStandInStep : zYs yX0_mayStandInStep cX0_mayStandInStep 2 (some .boolean) 2 := ⟨qc_X0_mayStandInStep, qs_X0_mayStandInStep, qn_X0, ⟨by decide, by decide, by decide +kernel⟩⟩
theorem k_X0_partOfStep : zYs yX0_partOfStep cX0_partOfStep 1 (some .int) 1 := ⟨qc_X0_partOfStep, qs_X0_partOfStep, qn_X0, ⟨by decide, by decide, by decide +kernel⟩⟩
theorem k_X0_readInto : zYv RX0 yX0_readInto cX0_readInto 6 none 1 := ⟨qc_X0_readInto, qi_X0_readInto, ql_X0_readInto, qn_X0, ⟨by decide, by decide, by decide +kernel⟩⟩
theorem k_X1_init : zYi yX1_init cX1_init 1 0 := ⟨qc_X1_init, qi_X1_init, qn_X1, rfl, ⟨by decide, by decide, by decide +kernel⟩⟩
theorem k_X1_begin : zYv RX1 yX1_begin cX1_begin 3 none 2 := ⟨qc_X1_begin, qi_X1_begin, ql_X1_begin, qn_X1, ⟨by decide, by decide, by decide +kernel⟩⟩
theorem k_X1_copy : zYv RX1 yX1_copy cX1_copy 2 none 1 := ⟨qc_X1_copy, qi_X1_copy, ql_X1_copy, qn_X1, ⟨by decide, by decide, by decide +kernel⟩⟩
theorem k_X1_hasRoutine : zYv RX1 yX1_hasRoutine cX1_hasRoutine 1 (some .boolean) 0 := ⟨qc_X1_hasRoutine, qi_X1_hasRoutine, ql_X1_hasRoutine, qn_X1, ⟨by decide, by decide, by decide +kernel⟩⟩
theorem k_X1_hasStep : zYv RX1 yX1_hasStep cX1_hasStep 2 (some .boolean) 1 := ⟨qc_X1_hasStep, qi_X1_hasStep, ql_X1_hasStep, qn_X1, ⟨by decide, by decide, by decide +kernel⟩⟩
theorem k_X1_hasPlace : zYv RX1 yX1_hasPlace cX1_hasPlace 2 (some .boolean) 1 := ⟨qc_X1_hasPlace, qi_X1_hasPlace, ql_X1_hasPlace, qn_X1, ⟨by decide, by decide, by decide +kernel⟩⟩
theorem k_X1_hasCard : zYv RX1 yX1_hasCard cX1_hasCard 2 (some .boolean) 1 := ⟨qc_X1_hasCard, qi_X1_hasCard, ql_X1_hasCard, qn_X1, ⟨by decide, by decide, by decide +kernel⟩⟩
theorem k_X1_setStep : zYv RX1 yX1_setStep cX1_setStep 5 none 3 := ⟨qc_X1_setStep, qi_X1_setStep, ql_X1_setStep, qn_X1, ⟨by decide, by decide, by decide +kernel⟩⟩
theorem k_X1_placeBehind : zYv RX1 yX1_placeBehind cX1_placeBehind 3 (some .int) 2 := ⟨qc_X1_placeBehind, qi_X1_placeBehind, ql_X1_placeBehind, qn_X1, ⟨by decide, by decide, by decide +kernel⟩⟩
theorem k_X1_layInOrder : zYv RX1 yX1_layInOrder cX1_layInOrder 2 none 0 := ⟨qc_X1_layInOrder, qi_X1_layInOrder, ql_X1_layInOrder, qn_X1, ⟨by decide, by decide, by decide +kernel⟩⟩
theorem k_X1_placeOf : zYv RX1 yX1_placeOf cX1_placeOf 3 (some .int) 1 := ⟨qc_X1_placeOf, qi_X1_placeOf, ql_X1_placeOf, qn_X1, ⟨by decide, by decide, by decide +kernel⟩⟩
theorem k_X1_asAtFirst : zYv RX1 yX1_asAtFirst cX1_asAtFirst 3 (some .int) 0 := ⟨qc_X1_asAtFirst, qi_X1_asAtFirst, ql_X1_asAtFirst, qn_X1, ⟨by decide, by decide, by decide +kernel⟩⟩
theorem k_X1_asAtFirstBehind : zYv RX1 yX1_asAtFirstBehind cX1_asAtFirstBehind 4 (some .int) 1 := ⟨qc_X1_asAtFirstBehind, qi_X1_asAtFirstBehind, ql_X1_asAtFirstBehind, qn_X1, ⟨by decide, by decide, by decide +kernel⟩⟩
theorem k_X1_topBehind : zYv RX1 yX1_topBehind cX1_topBehind 3 (some .int) 1 := ⟨qc_X1_topBehind, qi_X1_topBehind, ql_X1_topBehind, qn_X1, ⟨by decide, by decide, by decide +kernel⟩⟩
theorem k_X1_wrongTwos : zYv RX1 yX1_wrongTwos cX1_wrongTwos 4 (some .int) 0 := ⟨qc_X1_wrongTwos, qi_X1_wrongTwos, ql_X1_wrongTwos, qn_X1, ⟨by decide, by decide, by decide +kernel⟩⟩
theorem k_X1_addSeen : zYv RX1 yX1_addSeen cX1_addSeen 4 none 3 := ⟨qc_X1_addSeen, qi_X1_addSeen, ql_X1_addSeen, qn_X1, ⟨by decide, by decide, by decide +kernel⟩⟩
theorem k_X1_possibleNumbers : zYv RX1 yX1_possibleNumbers cX1_possibleNumbers 4 (some .int) 1 := ⟨qc_X1_possibleNumbers, qi_X1_possibleNumbers, ql_X1_possibleNumbers, qn_X1, ⟨by decide, by decide, by decide +kernel⟩⟩
theorem k_X1_agreesWithSeen : zYv RX1 yX1_agreesWithSeen cX1_agreesWithSeen 4 (some .boolean) 2 := ⟨qc_X1_agreesWithSeen, qi_X1_agreesWithSeen, ql_X1_agreesWithSeen, qn_X1, ⟨by decide, by decide, by decide +kernel⟩⟩
theorem k_X2_init : zYi yX2_init cX2_init 1 0 := ⟨qc_X2_init, qi_X2_init, qn_X2, rfl, ⟨by decide, by decide, by decide +kernel⟩⟩
theorem k_X2_begin : zYv RX2 yX2_begin cX2_begin 3 none 1 := ⟨qc_X2_begin, qi_X2_begin, ql_X2_begin, qn_X2, ⟨by decide, by decide, by decide +kernel⟩⟩
theorem k_X2_add : zYv RX2 yX2_add cX2_add 4 none 2 := ⟨qc_X2_add, qi_X2_add, ql_X2_add, qn_X2, ⟨by decide, by decide, by decide +kernel⟩⟩
theorem k_X2_stayCount : zYv RX2 yX2_stayCount cX2_stayCount 3 (some .int) 0 := ⟨qc_X2_stayCount, qi_X2_stayCount, ql_X2_stayCount, qn_X2, ⟨by decide, by decide, by decide +kernel⟩⟩
theorem k_X2_ringLength : zYv RX2 yX2_ringLength cX2_ringLength 4 (some .int) 1 := ⟨qc_X2_ringLength, qi_X2_ringLength, ql_X2_ringLength, qn_X2, ⟨by decide, by decide, by decide +kernel⟩⟩
theorem k_X2_placeAfter : zYv RX2 yX2_placeAfter cX2_placeAfter 6 (some .int) 2 := ⟨qc_X2_placeAfter, qi_X2_placeAfter, ql_X2_placeAfter, qn_X2, ⟨by decide, by decide, by decide +kernel⟩⟩
theorem k_X2_order : zYv RX2 yX2_order cX2_order 4 (some .int) 0 := ⟨qc_X2_order, qi_X2_order, ql_X2_order, qn_X2, ⟨by decide, by decide, by decide +kernel⟩⟩
theorem k_X2_ringCount : zYv RX2 yX2_ringCount cX2_ringCount 3 (some .int) 0 := ⟨qc_X2_ringCount, qi_X2_ringCount, ql_X2_ringCount, qn_X2, ⟨by decide, by decide, by decide +kernel⟩⟩
theorem k_X2_isLeastOfRing : zYv RX2 yX2_isLeastOfRing cX2_isLeastOfRing 4 (some .boolean) 1 := ⟨qc_X2_isLeastOfRing, qi_X2_isLeastOfRing, ql_X2_isLeastOfRing, qn_X2, ⟨by decide, by decide, by decide +kernel⟩⟩
theorem k_X2_longestRing : zYv RX2 yX2_longestRing cX2_longestRing 3 (some .int) 0 := ⟨qc_X2_longestRing, qi_X2_longestRing, ql_X2_longestRing, qn_X2, ⟨by decide, by decide, by decide +kernel⟩⟩
theorem k_X3_init : zYi yX3_init cX3_init 1 0 := ⟨qc_X3_init, qi_X3_init, qn_X3, rfl, ⟨by decide, by decide, by decide +kernel⟩⟩
theorem k_X3_letter : zYv RX3 yX3_letter cX3_letter 2 (some .int) 1 := ⟨qc_X3_letter, qi_X3_letter, ql_X3_letter, qn_X3, ⟨by decide, by decide, by decide +kernel⟩⟩
theorem k_X3_blank : zYv RX3 yX3_blank cX3_blank 1 (some .int) 0 := ⟨qc_X3_blank, qi_X3_blank, ql_X3_blank, qn_X3, ⟨by decide, by decide, by decide +kernel⟩⟩
theorem k_X3_fault : zYv RX3 yX3_fault cX3_fault 1 (some .int) 0 := ⟨qc_X3_fault, qi_X3_fault, ql_X3_fault, qn_X3, ⟨by decide, by decide, by decide +kernel⟩⟩
theorem k_X3_routine : zYv RX3 yX3_routine cX3_routine 1 (some .int) 0 := ⟨qc_X3_routine, qi_X3_routine, ql_X3_routine, qn_X3, ⟨by decide, by decide, by decide +kernel⟩⟩
theorem k_X3_step : zYv RX3 yX3_step cX3_step 3 (some .int) 2 := ⟨qc_X3_step, qi_X3_step, ql_X3_step, qn_X3, ⟨by decide, by decide, by decide +kernel⟩⟩
theorem k_X3_as : zYv RX3 yX3_as cX3_as 3 (some .int) 2 := ⟨qc_X3_as, qi_X3_as, ql_X3_as, qn_X3, ⟨by decide, by decide, by decide +kernel⟩⟩
theorem k_X3_at : zYv RX3 yX3_at cX3_at 2 (some .int) 1 := ⟨qc_X3_at, qi_X3_at, ql_X3_at, qn_X3, ⟨by decide, by decide, by decide +kernel⟩⟩
theorem k_X3_goes : zYv RX3 yX3_goes cX3_goes 3 (some .int) 2 := ⟨qc_X3_goes, qi_X3_goes, ql_X3_goes, qn_X3, ⟨by decide, by decide, by decide +kernel⟩⟩
theorem k_X3_act : zYv RX3 yX3_act cX3_act 2 (some .int) 1 := ⟨qc_X3_act, qi_X3_act, ql_X3_act, qn_X3, ⟨by decide, by decide, by decide +kernel⟩⟩
theorem k_X3_whole : zYv RX3 yX3_whole cX3_whole 1 (some .int) 0 := ⟨qc_X3_whole, qi_X3_whole, ql_X3_whole, qn_X3, ⟨by decide, by decide, by decide +kernel⟩⟩
theorem k_X3_exchange : zYv RX3 yX3_exchange cX3_exchange 4 (some .int) 2 := ⟨qc_X3_exchange, qi_X3_exchange, ql_X3_exchange, qn_X3, ⟨by decide, by decide, by decide +kernel⟩⟩
theorem k_X3_sort : zYv RX3 yX3_sort cX3_sort 2 (some .int) 0 := ⟨qc_X3_sort, qi_X3_sort, ql_X3_sort, qn_X3, ⟨by decide, by decide, by decide +kernel⟩⟩
theorem k_X3_change : zYv RX3 yX3_change cX3_change 5 (some .int) 3 := ⟨qc_X3_change, qi_X3_change, ql_X3_change, qn_X3, ⟨by decide, by decide, by decide +kernel⟩⟩
theorem k_X3_round : zYv RX3 yX3_round cX3_round 2 (some .int) 1 := ⟨qc_X3_round, qi_X3_round, ql_X3_round, qn_X3, ⟨by decide, by decide, by decide +kernel⟩⟩
theorem k_X3_after : zYv RX3 yX3_after cX3_after 3 (some .int) 2 := ⟨qc_X3_after, qi_X3_after, ql_X3_after, qn_X3, ⟨by decide, by decide, by decide +kernel⟩⟩
theorem k_X3_rings : zYv RX3 yX3_rings cX3_rings 3 (some .int) 1 := ⟨qc_X3_rings, qi_X3_rings, ql_X3_rings, qn_X3, ⟨by decide, by decide, by decide +kernel⟩⟩
theorem k_X3_bring : zYv RX3 yX3_bring cX3_bring 5 (some .int) 3 := ⟨qc_X3_bring, qi_X3_bring, ql_X3_bring, qn_X3, ⟨by decide, by decide, by decide +kernel⟩⟩
theorem k_X3_home : zYv RX3 yX3_home cX3_home 3 (some .int) 1 := ⟨qc_X3_home, qi_X3_home, ql_X3_home, qn_X3, ⟨by decide, by decide, by decide +kernel⟩⟩
theorem k_X3_odds : zYv RX3 yX3_odds cX3_odds 9 (some .int) 4 := ⟨qc_X3_odds, qi_X3_odds, ql_X3_odds, qn_X3, ⟨by decide, by decide, by decide +kernel⟩⟩
theorem k_X3_see : zYv RX3 yX3_see cX3_see 4 (some .int) 3 := ⟨qc_X3_see, qi_X3_see, ql_X3_see, qn_X3, ⟨by decide, by decide, by decide +kernel⟩⟩
theorem k_X3_forget : zYv RX3 yX3_forget cX3_forget 2 (some .int) 0 := ⟨qc_X3_forget, qi_X3_forget, ql_X3_forget, qn_X3, ⟨by decide, by decide, by decide +kernel⟩⟩
theorem k_X3_runs : zYv RX3 yX3_runs cX3_runs 5 (some .int) 3 := ⟨qc_X3_runs, qi_X3_runs, ql_X3_runs, qn_X3, ⟨by decide, by decide, by decide +kernel⟩⟩
theorem k_X3_image : zYv RX3 yX3_image cX3_image 1 (some .int) 0 := ⟨qc_X3_image, qi_X3_image, ql_X3_image, qn_X3, ⟨by decide, by decide, by decide +kernel⟩⟩
theorem k_X3_restore : zYv RX3 yX3_restore cX3_restore 1 (some .int) 0 := ⟨qc_X3_restore, qi_X3_restore, ql_X3_restore, qn_X3, ⟨by decide, by decide, by decide +kernel⟩⟩
theorem k_X3_count : zYv RX3 yX3_count cX3_count 2 (some .int) 1 := ⟨qc_X3_count, qi_X3_count, ql_X3_count, qn_X3, ⟨by decide, by decide, by decide +kernel⟩⟩
theorem k_X3_digest : zYv RX3 yX3_digest cX3_digest 4 (some .long) 0 := ⟨qc_X3_digest, qi_X3_digest, ql_X3_digest, qn_X3, ⟨by decide, by decide, by decide +kernel⟩⟩
theorem k_X3_digestOfSteps : zYv RX3 yX3_digestOfSteps cX3_digestOfSteps 7 (some .long) 1 := ⟨qc_X3_digestOfSteps, qi_X3_digestOfSteps, ql_X3_digestOfSteps, qn_X3, ⟨by decide, by decide, by decide +kernel⟩⟩
theorem k_X3_digestOfPlaces : zYv RX3 yX3_digestOfPlaces cX3_digestOfPlaces 6 (some .long) 1 := ⟨qc_X3_digestOfPlaces, qi_X3_digestOfPlaces, ql_X3_digestOfPlaces, qn_X3, ⟨by decide, by decide, by decide +kernel⟩⟩
theorem k_X3_digestOfRoutine : zYv RX3 yX3_digestOfRoutine cX3_digestOfRoutine 6 (some .long) 1 := ⟨qc_X3_digestOfRoutine, qi_X3_digestOfRoutine, ql_X3_digestOfRoutine, qn_X3, ⟨by decide, by decide, by decide +kernel⟩⟩
theorem k_X3_joined : zYs yX3_joined cX3_joined 4 (some .long) 2 := ⟨qc_X3_joined, qs_X3_joined, qn_X3, ⟨by decide, by decide, by decide +kernel⟩⟩
theorem k_X3_wayOfStep : zYv RX3 yX3_wayOfStep cX3_wayOfStep 2 (some (.object "DeckHands$Way")) 1 := ⟨qc_X3_wayOfStep, qi_X3_wayOfStep, ql_X3_wayOfStep, qn_X3, ⟨by decide, by decide, by decide +kernel⟩⟩
theorem k_X3_wayOfRoutine : zYv RX3 yX3_wayOfRoutine cX3_wayOfRoutine 2 (some (.object "DeckHands$Way")) 0 := ⟨qc_X3_wayOfRoutine, qi_X3_wayOfRoutine, ql_X3_wayOfRoutine, qn_X3, ⟨by decide, by decide, by decide +kernel⟩⟩
theorem k_X3_carryOut : zYv RX3 yX3_carryOut cX3_carryOut 4 (some .int) 2 := ⟨qc_X3_carryOut, qi_X3_carryOut, ql_X3_carryOut, qn_X3, ⟨by decide, by decide, by decide +kernel⟩⟩
theorem k_X3_placeToWatch : zYv RX3 yX3_placeToWatch cX3_placeToWatch 7 (some .int) 2 := ⟨qc_X3_placeToWatch, qi_X3_placeToWatch, ql_X3_placeToWatch, qn_X3, ⟨by decide, by decide, by decide +kernel⟩⟩
theorem k_X3_leftAtWorst : zYv RX3 yX3_leftAtWorst cX3_leftAtWorst 7 (some .int) 3 := ⟨qc_X3_leftAtWorst, qi_X3_leftAtWorst, ql_X3_leftAtWorst, qn_X3, ⟨by decide, by decide, by decide +kernel⟩⟩
theorem k_X3_tellDistancesTo : zYv RX3 yX3_tellDistancesTo cX3_tellDistancesTo 4 none 1 := ⟨qc_X3_tellDistancesTo, qi_X3_tellDistancesTo, ql_X3_tellDistancesTo, qn_X3, ⟨by decide, by decide, by decide +kernel⟩⟩
theorem k_X3_stepTo : zYv RX3 yX3_stepTo cX3_stepTo 4 (some .int) 2 := ⟨qc_X3_stepTo, qi_X3_stepTo, ql_X3_stepTo, qn_X3, ⟨by decide, by decide, by decide +kernel⟩⟩
theorem k_X3_firstStepNearer : zYv RX3 yX3_firstStepNearer cX3_firstStepNearer 2 (some .int) 1 := ⟨qc_X3_firstStepNearer, qi_X3_firstStepNearer, ql_X3_firstStepNearer, qn_X3, ⟨by decide, by decide, by decide +kernel⟩⟩
theorem k_X3_findPathHome : zYv RX3 yX3_findPathHome cX3_findPathHome 4 (some .boolean) 1 := ⟨qc_X3_findPathHome, qi_X3_findPathHome, ql_X3_findPathHome, qn_X3, ⟨by decide, by decide, by decide +kernel⟩⟩
theorem k_X3_nextPath : zYv RX3 yX3_nextPath cX3_nextPath 3 none 1 := ⟨qc_X3_nextPath, qi_X3_nextPath, ql_X3_nextPath, qn_X3, ⟨by decide, by decide, by decide +kernel⟩⟩
theorem k_X3_pathLeadsHome : zYv RX3 yX3_pathLeadsHome cX3_pathLeadsHome 5 (some .boolean) 1 := ⟨qc_X3_pathLeadsHome, qi_X3_pathLeadsHome, ql_X3_pathLeadsHome, qn_X3, ⟨by decide, by decide, by decide +kernel⟩⟩
theorem k_X3_pathInDigits : zYv RX3 yX3_pathInDigits cX3_pathInDigits 4 (some .int) 1 := ⟨qc_X3_pathInDigits, qi_X3_pathInDigits, ql_X3_pathInDigits, qn_X3, ⟨by decide, by decide, by decide +kernel⟩⟩
theorem k_X3_tellDrawsFrom : zYv RX3 yX3_tellDrawsFrom cX3_tellDrawsFrom 6 none 2 := ⟨qc_X3_tellDrawsFrom, qi_X3_tellDrawsFrom, ql_X3_tellDrawsFrom, qn_X3, ⟨by decide, by decide, by decide +kernel⟩⟩
theorem k_X3_drawSteps : zYv RX3 yX3_drawSteps cX3_drawSteps 6 (some .int) 2 := ⟨qc_X3_drawSteps, qi_X3_drawSteps, ql_X3_drawSteps, qn_X3, ⟨by decide, by decide, by decide +kernel⟩⟩
theorem k_X3_isOfKind : zYs yX3_isOfKind cX3_isOfKind 2 (some .boolean) 2 := ⟨qc_X3_isOfKind, qs_X3_isOfKind, qn_X3, ⟨by decide, by decide, by decide +kernel⟩⟩
theorem k_X3_greatestDivisor : zYs yX3_greatestDivisor cX3_greatestDivisor 6 (some .int) 2 := ⟨qc_X3_greatestDivisor, qs_X3_greatestDivisor, qn_X3, ⟨by decide, by decide, by decide +kernel⟩⟩
theorem k_X3_moved : zYs yX3_moved cX3_moved 4 (some .int) 4 := ⟨qc_X3_moved, qs_X3_moved, qn_X3, ⟨by decide, by decide, by decide +kernel⟩⟩
theorem k_X3_movedByStep : zYs yX3_movedByStep cX3_movedByStep 2 (some .int) 2 := ⟨qc_X3_movedByStep, qs_X3_movedByStep, qn_X3, ⟨by decide, by decide, by decide +kernel⟩⟩
theorem k_X3_movedByCut : zYs yX3_movedByCut cX3_movedByCut 4 (some .int) 3 := ⟨qc_X3_movedByCut, qs_X3_movedByCut, qn_X3, ⟨by decide, by decide, by decide +kernel⟩⟩
theorem k_X3_movedByTurn : zYs yX3_movedByTurn cX3_movedByTurn 2 (some .int) 2 := ⟨qc_X3_movedByTurn, qs_X3_movedByTurn, qn_X3, ⟨by decide, by decide, by decide +kernel⟩⟩
theorem k_X3_movedByDeal : zYs yX3_movedByDeal cX3_movedByDeal 11 (some .int) 4 := ⟨qc_X3_movedByDeal, qs_X3_movedByDeal, qn_X3, ⟨by decide, by decide, by decide +kernel⟩⟩
theorem k_X4_init : zYi yX4_init cX4_init 1 0 := ⟨qc_X4_init, qi_X4_init, qn_X4, rfl, ⟨by decide, by decide, by decide +kernel⟩⟩
theorem k_X4_in : zYs yX4_in cX4_in 6 (some .boolean) 3 := ⟨qc_X4_in, qs_X4_in, qn_X4, ⟨by decide, by decide, by decide +kernel⟩⟩
theorem k_X4_copy : zYs yX4_copy cX4_copy 3 none 2 := ⟨qc_X4_copy, qs_X4_copy, qn_X4, ⟨by decide, by decide, by decide +kernel⟩⟩
theorem k_X4_common : zYs yX4_common cX4_common 5 (some .int) 2 := ⟨qc_X4_common, qs_X4_common, qn_X4, ⟨by decide, by decide, by decide +kernel⟩⟩
theorem k_X4_letter : zYv RX4 yX4_letter cX4_letter 2 (some .int) 1 := ⟨qc_X4_letter, qi_X4_letter, ql_X4_letter, qn_X4, ⟨by decide, by decide, by decide +kernel⟩⟩
theorem k_X4_blank : zYv RX4 yX4_blank cX4_blank 2 (some .int) 0 := ⟨qc_X4_blank, qi_X4_blank, ql_X4_blank, qn_X4, ⟨by decide, by decide, by decide +kernel⟩⟩
theorem k_X4_kindBy : zYs yX4_kindBy cX4_kindBy 1 (some .int) 1 := ⟨qc_X4_kindBy, qs_X4_kindBy, qn_X4, ⟨by decide, by decide, by decide +kernel⟩⟩
theorem k_X4_isGood : zYv RX4 yX4_isGood cX4_isGood 3 (some .boolean) 1 := ⟨qc_X4_isGood, qi_X4_isGood, ql_X4_isGood, qn_X4, ⟨by decide, by decide, by decide +kernel⟩⟩
theorem k_X4_faultOf : zYv RX4 yX4_faultOf cX4_faultOf 2 (some .int) 0 := ⟨qc_X4_faultOf, qi_X4_faultOf, ql_X4_faultOf, qn_X4, ⟨by decide, by decide, by decide +kernel⟩⟩
theorem k_X4_fault : zYv RX4 yX4_fault cX4_fault 1 (some .int) 0 := ⟨qc_X4_fault, qi_X4_fault, ql_X4_fault, qn_X4, ⟨by decide, by decide, by decide +kernel⟩⟩
theorem k_X4_routine : zYv RX4 yX4_routine cX4_routine 2 (some .int) 0 := ⟨qc_X4_routine, qi_X4_routine, ql_X4_routine, qn_X4, ⟨by decide, by decide, by decide +kernel⟩⟩
theorem k_X4_layFirst : zYv RX4 yX4_layFirst cX4_layFirst 2 none 0 := ⟨qc_X4_layFirst, qi_X4_layFirst, ql_X4_layFirst, qn_X4, ⟨by decide, by decide, by decide +kernel⟩⟩
theorem k_X4_lacks : zYv RX4 yX4_lacks cX4_lacks 1 (some .boolean) 0 := ⟨qc_X4_lacks, qi_X4_lacks, ql_X4_lacks, qn_X4, ⟨by decide, by decide, by decide +kernel⟩⟩
theorem k_X4_isStep : zYv RX4 yX4_isStep cX4_isStep 2 (some .boolean) 1 := ⟨qc_X4_isStep, qi_X4_isStep, ql_X4_isStep, qn_X4, ⟨by decide, by decide, by decide +kernel⟩⟩
theorem k_X4_isPlace : zYv RX4 yX4_isPlace cX4_isPlace 2 (some .boolean) 1 := ⟨qc_X4_isPlace, qi_X4_isPlace, ql_X4_isPlace, qn_X4, ⟨by decide, by decide, by decide +kernel⟩⟩
theorem k_X4_byStep : zYv RX4 yX4_byStep cX4_byStep 4 (some .int) 2 := ⟨qc_X4_byStep, qi_X4_byStep, ql_X4_byStep, qn_X4, ⟨by decide, by decide, by decide +kernel⟩⟩
theorem k_X4_pileOf : zYv RX4 yX4_pileOf cX4_pileOf 3 (some .int) 2 := ⟨qc_X4_pileOf, qi_X4_pileOf, ql_X4_pileOf, qn_X4, ⟨by decide, by decide, by decide +kernel⟩⟩
theorem k_X4_byDeal : zYv RX4 yX4_byDeal cX4_byDeal 9 (some .int) 3 := ⟨qc_X4_byDeal, qi_X4_byDeal, ql_X4_byDeal, qn_X4, ⟨by decide, by decide, by decide +kernel⟩⟩
theorem k_X4_byTurn : zYv RX4 yX4_byTurn cX4_byTurn 4 (some .int) 2 := ⟨qc_X4_byTurn, qi_X4_byTurn, ql_X4_byTurn, qn_X4, ⟨by decide, by decide, by decide +kernel⟩⟩
theorem k_X4_goesBy : zYv RX4 yX4_goesBy cX4_goesBy 4 (some .int) 3 := ⟨qc_X4_goesBy, qi_X4_goesBy, ql_X4_goesBy, qn_X4, ⟨by decide, by decide, by decide +kernel⟩⟩
theorem k_X4_goesOf : zYv RX4 yX4_goesOf cX4_goesOf 3 (some .int) 2 := ⟨qc_X4_goesOf, qi_X4_goesOf, ql_X4_goesOf, qn_X4, ⟨by decide, by decide, by decide +kernel⟩⟩
theorem k_X4_goes : zYv RX4 yX4_goes cX4_goes 3 (some .int) 2 := ⟨qc_X4_goes, qi_X4_goes, ql_X4_goes, qn_X4, ⟨by decide, by decide, by decide +kernel⟩⟩
theorem k_X4_roundOf : zYv RX4 yX4_roundOf cX4_roundOf 4 (some .int) 1 := ⟨qc_X4_roundOf, qi_X4_roundOf, ql_X4_roundOf, qn_X4, ⟨by decide, by decide, by decide +kernel⟩⟩
theorem k_X4_round : zYv RX4 yX4_round cX4_round 2 (some .int) 1 := ⟨qc_X4_round, qi_X4_round, ql_X4_round, qn_X4, ⟨by decide, by decide, by decide +kernel⟩⟩
theorem k_X4_ringOf : zYv RX4 yX4_ringOf cX4_ringOf 4 (some .int) 1 := ⟨qc_X4_ringOf, qi_X4_ringOf, ql_X4_ringOf, qn_X4, ⟨by decide, by decide, by decide +kernel⟩⟩
theorem k_X4_layRings : zYv RX4 yX4_layRings cX4_layRings 4 none 0 := ⟨qc_X4_layRings, qi_X4_layRings, ql_X4_layRings, qn_X4, ⟨by decide, by decide, by decide +kernel⟩⟩
theorem k_X4_layRound : zYv RX4 yX4_layRound cX4_layRound 2 none 0 := ⟨qc_X4_layRound, qi_X4_layRound, ql_X4_layRound, qn_X4, ⟨by decide, by decide, by decide +kernel⟩⟩
theorem k_X4_ringsOf : zYv RX4 yX4_ringsOf cX4_ringsOf 2 (some .int) 1 := ⟨qc_X4_ringsOf, qi_X4_ringsOf, ql_X4_ringsOf, qn_X4, ⟨by decide, by decide, by decide +kernel⟩⟩
theorem k_X4_rings : zYv RX4 yX4_rings cX4_rings 2 (some .int) 1 := ⟨qc_X4_rings, qi_X4_rings, ql_X4_rings, qn_X4, ⟨by decide, by decide, by decide +kernel⟩⟩
theorem k_X4_afterOf : zYv RX4 yX4_afterOf cX4_afterOf 6 (some .int) 2 := ⟨qc_X4_afterOf, qi_X4_afterOf, ql_X4_afterOf, qn_X4, ⟨by decide, by decide, by decide +kernel⟩⟩
theorem k_X4_after : zYv RX4 yX4_after cX4_after 3 (some .int) 2 := ⟨qc_X4_after, qi_X4_after, ql_X4_after, qn_X4, ⟨by decide, by decide, by decide +kernel⟩⟩
theorem k_X4_ofStep : zYv RX4 yX4_ofStep cX4_ofStep 4 (some .int) 2 := ⟨qc_X4_ofStep, qi_X4_ofStep, ql_X4_ofStep, qn_X4, ⟨by decide, by decide, by decide +kernel⟩⟩
theorem k_X4_tellStep : zYv RX4 yX4_tellStep cX4_tellStep 3 (some .int) 2 := ⟨qc_X4_tellStep, qi_X4_tellStep, ql_X4_tellStep, qn_X4, ⟨by decide, by decide, by decide +kernel⟩⟩
theorem k_X4_step : zYv RX4 yX4_step cX4_step 3 (some .int) 2 := ⟨qc_X4_step, qi_X4_step, ql_X4_step, qn_X4, ⟨by decide, by decide, by decide +kernel⟩⟩
theorem k_X4_as : zYv RX4 yX4_as cX4_as 4 (some .int) 2 := ⟨qc_X4_as, qi_X4_as, ql_X4_as, qn_X4, ⟨by decide, by decide, by decide +kernel⟩⟩
theorem k_X4_at : zYv RX4 yX4_at cX4_at 2 (some .int) 1 := ⟨qc_X4_at, qi_X4_at, ql_X4_at, qn_X4, ⟨by decide, by decide, by decide +kernel⟩⟩
theorem k_X4_doThen : zYv RX4 yX4_doThen cX4_doThen 3 none 1 := ⟨qc_X4_doThen, qi_X4_doThen, ql_X4_doThen, qn_X4, ⟨by decide, by decide, by decide +kernel⟩⟩
theorem k_X4_act : zYv RX4 yX4_act cX4_act 2 (some .int) 1 := ⟨qc_X4_act, qi_X4_act, ql_X4_act, qn_X4, ⟨by decide, by decide, by decide +kernel⟩⟩
theorem k_X4_whole : zYv RX4 yX4_whole cX4_whole 2 (some .int) 0 := ⟨qc_X4_whole, qi_X4_whole, ql_X4_whole, qn_X4, ⟨by decide, by decide, by decide +kernel⟩⟩
theorem k_X4_exchange : zYv RX4 yX4_exchange cX4_exchange 4 (some .int) 2 := ⟨qc_X4_exchange, qi_X4_exchange, ql_X4_exchange, qn_X4, ⟨by decide, by decide, by decide +kernel⟩⟩
theorem k_X4_homely : zYv RX4 yX4_homely cX4_homely 4 (some .int) 1 := ⟨qc_X4_homely, qi_X4_homely, ql_X4_homely, qn_X4, ⟨by decide, by decide, by decide +kernel⟩⟩
theorem k_X4_sort : zYv RX4 yX4_sort cX4_sort 2 (some .int) 0 := ⟨qc_X4_sort, qi_X4_sort, ql_X4_sort, qn_X4, ⟨by decide, by decide, by decide +kernel⟩⟩
theorem k_X4_change : zYv RX4 yX4_change cX4_change 5 (some .int) 3 := ⟨qc_X4_change, qi_X4_change, ql_X4_change, qn_X4, ⟨by decide, by decide, by decide +kernel⟩⟩
theorem k_X4_placeOf : zYv RX4 yX4_placeOf cX4_placeOf 3 (some .int) 1 := ⟨qc_X4_placeOf, qi_X4_placeOf, ql_X4_placeOf, qn_X4, ⟨by decide, by decide, by decide +kernel⟩⟩
theorem k_X4_layFar : zYv RX4 yX4_layFar cX4_layFar 5 none 1 := ⟨qc_X4_layFar, qi_X4_layFar, ql_X4_layFar, qn_X4, ⟨by decide, by decide, by decide +kernel⟩⟩
theorem k_X4_bringOf : zYv RX4 yX4_bringOf cX4_bringOf 6 (some .int) 3 := ⟨qc_X4_bringOf, qi_X4_bringOf, ql_X4_bringOf, qn_X4, ⟨by decide, by decide, by decide +kernel⟩⟩
theorem k_X4_bring : zYv RX4 yX4_bring cX4_bring 4 (some .int) 3 := ⟨qc_X4_bring, qi_X4_bring, ql_X4_bring, qn_X4, ⟨by decide, by decide, by decide +kernel⟩⟩
theorem k_X4_power : zYs yX4_power cX4_power 4 (some .int) 2 := ⟨qc_X4_power, qs_X4_power, qn_X4, ⟨by decide, by decide, by decide +kernel⟩⟩
theorem k_X4_isHomeBy : zYv RX4 yX4_isHomeBy cX4_isHomeBy 5 (some .boolean) 2 := ⟨qc_X4_isHomeBy, qi_X4_isHomeBy, ql_X4_isHomeBy, qn_X4, ⟨by decide, by decide, by decide +kernel⟩⟩
theorem k_X4_homeOf : zYv RX4 yX4_homeOf cX4_homeOf 4 (some .int) 1 := ⟨qc_X4_homeOf, qi_X4_homeOf, ql_X4_homeOf, qn_X4, ⟨by decide, by decide, by decide +kernel⟩⟩
theorem k_X4_home : zYv RX4 yX4_home cX4_home 2 (some .int) 1 := ⟨qc_X4_home, qi_X4_home, ql_X4_home, qn_X4, ⟨by decide, by decide, by decide +kernel⟩⟩
theorem k_X4_oddsOf : zYv RX4 yX4_oddsOf cX4_oddsOf 7 (some .int) 4 := ⟨qc_X4_oddsOf, qi_X4_oddsOf, ql_X4_oddsOf, qn_X4, ⟨by decide, by decide, by decide +kernel⟩⟩
theorem k_X4_odds : zYv RX4 yX4_odds cX4_odds 5 (some .int) 4 := ⟨qc_X4_odds, qi_X4_odds, ql_X4_odds, qn_X4, ⟨by decide, by decide, by decide +kernel⟩⟩
theorem k_X4_see : zYv RX4 yX4_see cX4_see 4 (some .int) 3 := ⟨qc_X4_see, qi_X4_see, ql_X4_see, qn_X4, ⟨by decide, by decide, by decide +kernel⟩⟩
theorem k_X4_forget : zYv RX4 yX4_forget cX4_forget 2 (some .int) 0 := ⟨qc_X4_forget, qi_X4_forget, ql_X4_forget, qn_X4, ⟨by decide, by decide, by decide +kernel⟩⟩
theorem k_X4_numbersOf : zYv RX4 yX4_numbersOf cX4_numbersOf 6 (some .int) 1 := ⟨qc_X4_numbersOf, qi_X4_numbersOf, ql_X4_numbersOf, qn_X4, ⟨by decide, by decide, by decide +kernel⟩⟩
theorem k_X4_watchOf : zYv RX4 yX4_watchOf cX4_watchOf 10 (some .int) 1 := ⟨qc_X4_watchOf, qi_X4_watchOf, ql_X4_watchOf, qn_X4, ⟨by decide, by decide, by decide +kernel⟩⟩
theorem k_X4_draw : zYv RX4 yX4_draw cX4_draw 2 (some .int) 1 := ⟨qc_X4_draw, qi_X4_draw, ql_X4_draw, qn_X4, ⟨by decide, by decide, by decide +kernel⟩⟩
theorem k_X4_runs : zYv RX4 yX4_runs cX4_runs 5 (some .int) 3 := ⟨qc_X4_runs, qi_X4_runs, ql_X4_runs, qn_X4, ⟨by decide, by decide, by decide +kernel⟩⟩
theorem k_X4_image : zYv RX4 yX4_image cX4_image 1 (some .int) 0 := ⟨qc_X4_image, qi_X4_image, ql_X4_image, qn_X4, ⟨by decide, by decide, by decide +kernel⟩⟩
theorem k_X4_restore : zYv RX4 yX4_restore cX4_restore 1 (some .int) 0 := ⟨qc_X4_restore, qi_X4_restore, ql_X4_restore, qn_X4, ⟨by decide, by decide, by decide +kernel⟩⟩
theorem k_X4_crossed : zYv RX4 yX4_crossed cX4_crossed 5 (some .int) 0 := ⟨qc_X4_crossed, qi_X4_crossed, ql_X4_crossed, qn_X4, ⟨by decide, by decide, by decide +kernel⟩⟩
theorem k_X4_countOf : zYv RX4 yX4_countOf cX4_countOf 2 (some .int) 1 := ⟨qc_X4_countOf, qi_X4_countOf, ql_X4_countOf, qn_X4, ⟨by decide, by decide, by decide +kernel⟩⟩
theorem k_X4_count : zYv RX4 yX4_count cX4_count 2 (some .int) 1 := ⟨qc_X4_count, qi_X4_count, ql_X4_count, qn_X4, ⟨by decide, by decide, by decide +kernel⟩⟩
theorem k_X4_say : zYv RX4 yX4_say cX4_say 3 none 1 := ⟨qc_X4_say, qi_X4_say, ql_X4_say, qn_X4, ⟨by decide, by decide, by decide +kernel⟩⟩
theorem k_X4_sayRoutine : zYv RX4 yX4_sayRoutine cX4_sayRoutine 2 none 0 := ⟨qc_X4_sayRoutine, qi_X4_sayRoutine, ql_X4_sayRoutine, qn_X4, ⟨by decide, by decide, by decide +kernel⟩⟩
theorem k_X4_digest : zYv RX4 yX4_digest cX4_digest 3 (some .long) 0 := ⟨qc_X4_digest, qi_X4_digest, ql_X4_digest, qn_X4, ⟨by decide, by decide, by decide +kernel⟩⟩
theorem k_J7_fill_53178 : zYs yJ7_fill_53178 cJ7_fill_53178 4 none 2 := ⟨qc_J7_fill_53178, qs_J7_fill_53178, qn_J7, ⟨by decide, by decide, by decide +kernel⟩⟩
