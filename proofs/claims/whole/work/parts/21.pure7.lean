def LI (pl : Nat) (gl : Nat → Int) (lt : Nat → Nat) : Prop := pl ≤ 22 ∧ (∀ j, j < pl → gl j = ((lt j : Nat) : Int)) ∧ (∀ j, j < pl → 1 ≤ lt j ∧ lt j ≤ 126)
def fLet (pl : Nat) (y : Int) : Int := if 1 ≤ y ∧ y ≤ 126 then (if 22 ≤ pl then -104 else (pl : Int) + 1) else -102
def lePl (pl : Nat) (y : Int) : Nat := if 1 ≤ y ∧ y ≤ 126 then (if 22 ≤ pl then pl else pl + 1) else pl
def leLt (pl : Nat) (lt : Nat → Nat) (y : Int) : Nat → Nat := if 1 ≤ y ∧ y ≤ 126 then (if 22 ≤ pl then lt else nup lt pl y.toNat) else lt
theorem nup_s (g : Nat → Nat) (q v : Nat) : nup g q v q = v := if_pos rfl
theorem nup_n {g : Nat → Nat} {q v j : Nat} (h : j ≠ q) : nup g q v j = g j := if_neg h
theorem LI_add {pl q : Nat} {gl : Nat → Int} {lt : Nat → Nat} (h : LI pl gl lt) (hp : pl < 22) (hq : 1 ≤ q ∧ q ≤ 126) : LI (pl + 1) (zup gl pl (q : Int)) (nup lt pl q) := by
  obtain ⟨h1, h2, h3⟩ := h
  refine ⟨by omega, fun j hj => ?_, fun j hj => ?_⟩
  · by_cases h4 : j = pl
    · subst h4; rw [zup_s, nup_s]
    · rw [zup_n h4, nup_n h4]; exact h2 j (by omega)
  · by_cases h4 : j = pl
    · subst h4; rw [nup_s]; exact hq
    · rw [nup_n h4]; exact h3 j (by omega)
theorem TI_pack {n k d v d' : Nat} {g0 g1 g2 g3 g4 g5 g6 : Nat → Int} {κ ν π ss sf st : Nat → Nat} {o3 : Nat → Int} {π' : Nat → Nat} (h : TI n k d v g0 g1 g2 g3 g4 g5 g6 κ ν π ss sf st) (hd : d' ≤ 9999) (h1 : ∀ j, j < n → o3 j = ((π' j : Nat) : Int)) (h2 : ∀ j, j < n → π' j < n) (h3 : inj π' n) : TI n k d' v g0 g1 g2 o3 g4 g5 g6 κ ν π' ss sf st := by
  obtain ⟨a1, a2, a3, a4, a5, a6, a7, a8, a9, a10, a11, a12⟩ := h
  exact ⟨a1, hd, a3, a4, a5, a6, a7, a8, h1, h2, h3, a12⟩
theorem TI_seen0 {n k d v : Nat} {g0 g1 g2 g3 g4 g5 g6 : Nat → Int} {κ ν π ss sf st : Nat → Nat} (h : TI n k d v g0 g1 g2 g3 g4 g5 g6 κ ν π ss sf st) : TI n k d 0 g0 g1 g2 g3 g4 g5 g6 κ ν π ss sf st := by
  obtain ⟨a1, a2, a3, a4, a5, a6, a7, a8, a9, a10, a11, a12⟩ := h
  exact ⟨a1, a2, by omega, a4, a5, a6, a7, a8, a9, a10, a11, fun j hj => by omega, fun j hj => by omega, fun j hj => by omega, fun j hj => by omega, fun j hj => by omega, fun j hj => by omega⟩
theorem up_row {g : Nat → Int} {f : Nat → Nat} {v q : Nat} (h : ∀ j, j < v → g j = ((f j : Nat) : Int)) : ∀ j, j < v + 1 → zup g v (q : Int) j = ((nup f v q j : Nat) : Int) := by
  intro j hj
  by_cases h4 : j = v
  · subst h4; rw [zup_s, nup_s]
  · rw [zup_n h4, nup_n h4]; exact h j (by omega)
theorem up_bd {f : Nat → Nat} {v q n : Nat} (h : ∀ j, j < v → f j < n) (hq : q < n) : ∀ j, j < v + 1 → nup f v q j < n := by
  intro j hj
  by_cases h4 : j = v
  · subst h4; rw [nup_s]; exact hq
  · rw [nup_n h4]; exact h j (by omega)
theorem TI_see {n k d v : Nat} {g0 g1 g2 g3 g4 g5 g6 : Nat → Int} {κ ν π ss sf st : Nat → Nat} {q1 q2 q3 : Nat} (h : TI n k d v g0 g1 g2 g3 g4 g5 g6 κ ν π ss sf st) (hv : v < 6) (h1 : q1 < k) (h2 : q2 < n) (h3 : q3 < n) : TI n k d (v + 1) g0 g1 g2 g3 (zup g4 v (q1 : Int)) (zup g5 v (q2 : Int)) (zup g6 v (q3 : Int)) κ ν π (nup ss v q1) (nup sf v q2) (nup st v q3) := by
  obtain ⟨a1, a2, a3, a4, a5, a6, a7, a8, a9, a10, a11, b1, b2, b3, b4, b5, b6⟩ := h
  exact ⟨a1, a2, by omega, a4, a5, a6, a7, a8, a9, a10, a11, up_row b1, up_bd b2 h1, up_row b3, up_bd b4 h2, up_row b5, up_bd b6 h3⟩
theorem TI_chg {n k d v : Nat} {g0 g1 g2 g3 g4 g5 g6 o2 : Nat → Int} {κ ν π ss sf st : Nat → Nat} {q w m : Nat} (h : TI n k d v g0 g1 g2 g3 g4 g5 g6 κ ν π ss sf st) (hq : q < k) (hw : w ≤ 4) (hm : m ≤ 9) (h2 : ∀ j, j < n → o2 (q * 12 + j) = ((mv n w m j : Nat) : Int)) (h3 : ∀ j, (j < q * 12 ∨ q * 12 + n ≤ j) → o2 j = g2 j) : TI n k d v (zup g0 q (w : Int)) (zup g1 q (m : Int)) o2 g3 g4 g5 g6 (nup κ q w) (nup ν q m) π ss sf st := by
  obtain ⟨a1, a2, a3, a4, a5, a6, a7, a8, a9⟩ := h
  refine ⟨a1, a2, a3, fun j hj => ?_, fun j hj => ?_, fun j hj => ?_, fun j hj => ?_, fun a i ha hi => ?_, a9⟩
  · by_cases h4 : j = q
    · subst h4; rw [zup_s, nup_s]
    · rw [zup_n h4, nup_n h4]; exact a4 j hj
  · by_cases h4 : j = q
    · subst h4; rw [nup_s]; exact hw
    · rw [nup_n h4]; exact a5 j hj
  · by_cases h4 : j = q
    · subst h4; rw [zup_s, nup_s]
    · rw [zup_n h4, nup_n h4]; exact a6 j hj
  · by_cases h4 : j = q
    · subst h4; rw [nup_s]; exact hm
    · rw [nup_n h4]; exact a7 j hj
  · unfold mus
    by_cases h4 : a = q
    · subst h4; rw [nup_s, nup_s]; exact h2 i hi
    · rw [nup_n h4, nup_n h4, h3 _ (by omega)]; exact a8 a i ha hi
theorem TI_cp {n k d v : Nat} {g0 g1 g2 g3 g4 g5 g6 f0 f1 f2 f3 f4 f5 f6 : Nat → Int} {κ ν π ss sf st : Nat → Nat} (h : TI n k d v g0 g1 g2 g3 g4 g5 g6 κ ν π ss sf st) : TI n k d v (zcp g0 f0 6) (zcp g1 f1 6) (zcp g2 f2 72) (zcp g3 f3 12) (zcp g4 f4 6) (zcp g5 f5 6) (zcp g6 f6 6) κ ν π ss sf st := by
  obtain ⟨a1, a2, a3, a4, a5, a6, a7, a8, a9, a10, a11, b1, b2, b3, b4, b5, b6⟩ := h
  refine ⟨a1, a2, a3, fun j hj => ?_, a5, fun j hj => ?_, a7, fun a i ha hi => ?_, fun j hj => ?_, a10, a11, fun j hj => ?_, b2, fun j hj => ?_, b4, fun j hj => ?_, b6⟩
  · rw [zcp_lt (by omega)]; exact a4 j hj
  · rw [zcp_lt (by omega)]; exact a6 j hj
  · rw [zcp_lt (by omega)]; exact a8 a i ha hi
  · rw [zcp_lt (by omega)]; exact a9 j hj
  · rw [zcp_lt (by omega)]; exact b1 j hj
  · rw [zcp_lt (by omega)]; exact b3 j hj
  · rw [zcp_lt (by omega)]; exact b5 j hj
def fExch (n : Nat) (π : Nat → Nat) (x y : Int) : Int := chk x n (fun a => chk y n (fun b => if a = b then -101 else ((sw π a b 0 : Nat) : Int)) (-101)) (-101)
def exP (n : Nat) (π : Nat → Nat) (x y : Int) : Nat → Nat := chk x n (fun a => chk y n (fun b => if a = b then π else sw π a b) π) π
def fAct (n k d : Nat) (κ ν π : Nat → Nat) (x : Int) : Int := chk x k (fun q => if 9999 ≤ d then -104 else ((pa (mus n κ ν q) n π 0 : Nat) : Int)) (-101)
def acP (n k d : Nat) (κ ν π : Nat → Nat) (x : Int) : Nat → Nat := chk x k (fun q => if 9999 ≤ d then π else pa (mus n κ ν q) n π) π
def acD (k d : Nat) (x : Int) : Nat := chk x k (fun _ => if 9999 ≤ d then d else d + 1) d
def fWhole (n k d : Nat) (κ ν π : Nat → Nat) : Int := if k = 0 then -103 else if 9999 < d + k then -104 else ((pa (rdc (mus n κ ν) k) n π 0 : Nat) : Int)
def whP (n k d : Nat) (κ ν π : Nat → Nat) : Nat → Nat := if k = 0 then π else if 9999 < d + k then π else pa (rdc (mus n κ ν) k) n π
def whD (k d : Nat) : Nat := if k = 0 then d else if 9999 < d + k then d else d + k
def fSort (n k : Nat) (π : Nat → Nat) : Int := if k = 0 then -103 else ((fb_ct (fun j => decide (π j = j)) n : Nat) : Int)
def soP (k : Nat) (π : Nat → Nat) : Nat → Nat := if k = 0 then π else fun j => j
def okC (y w : Int) : Prop := 0 ≤ y ∧ y ≤ 4 ∧ 0 ≤ w ∧ w ≤ 9
def fChg (k : Nat) (κ : Nat → Nat) (x y w : Int) : Int := chk x k (fun q => chk y 5 (fun _ => chk w 10 (fun _ => ((κ q : Nat) : Int)) (-102)) (-102)) (-101)
def chK (k : Nat) (κ : Nat → Nat) (x y w : Int) : Nat → Nat := chk x k (fun q => chk y 5 (fun a => chk w 10 (fun _ => nup κ q a) κ) κ) κ
def chN (k : Nat) (ν : Nat → Nat) (x y w : Int) : Nat → Nat := chk x k (fun q => chk y 5 (fun _ => chk w 10 (fun a => nup ν q a) ν) ν) ν
def fSee (n k v : Nat) (x y w : Int) : Int := chk x k (fun _ => chk y n (fun _ => chk w n (fun _ => if 6 ≤ v then -104 else (v : Int) + 1) (-101)) (-101)) (-101)
def seV (n k v : Nat) (x y w : Int) : Nat := chk x k (fun _ => chk y n (fun _ => chk w n (fun _ => if 6 ≤ v then v else v + 1) v) v) v
def seA (n k v : Nat) (f : Nat → Nat) (u : Nat) (x y w : Int) : Nat → Nat := chk x k (fun a => chk y n (fun b => chk w n (fun c => if 6 ≤ v then f else nup f v (if u = 0 then a else if u = 1 then b else c)) f) f) f
