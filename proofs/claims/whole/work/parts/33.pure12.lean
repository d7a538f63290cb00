theorem MI_pack {n k d v d' : Nat} {g0 g1 g3 gq : Nat → Int} {κ ν π ss sf st : Nat → Nat} {o3 : Nat → Int} {π' : Nat → Nat} (h : MI n k d v g0 g1 g3 gq κ ν π ss sf st) (hd : d' ≤ 9999) (h1 : ∀ j, j < n → o3 j = ((π' j : Nat) : Int)) (h2 : ∀ j, j < n → π' j < n) (h3 : inj π' n) : MI n k d' v g0 g1 o3 gq κ ν π' ss sf st := by
  obtain ⟨a1, a2, a3, a4, a5, a6, a7, a9, a10, a11, a12⟩ := h
  exact ⟨a1, hd, a3, a4, a5, a6, a7, h1, h2, h3, a12⟩
theorem MI_seen0 {n k d v : Nat} {g0 g1 g3 gq : Nat → Int} {κ ν π ss sf st : Nat → Nat} (h : MI n k d v g0 g1 g3 gq κ ν π ss sf st) : MI n k d 0 g0 g1 g3 gq κ ν π ss sf st := by
  obtain ⟨a1, a2, a3, a4, a5, a6, a7, a9, a10, a11, a12⟩ := h
  exact ⟨a1, a2, by omega, a4, a5, a6, a7, a9, a10, a11, fun j hj => by omega, fun j hj => by omega, fun j hj => by omega, fun j hj => by omega, fun j hj => by omega, fun j hj => by omega⟩
theorem MI_see {n k d v : Nat} {g0 g1 g3 gq : Nat → Int} {κ ν π ss sf st : Nat → Nat} {q1 q2 q3 : Nat} (h : MI n k d v g0 g1 g3 gq κ ν π ss sf st) (hv : v < 6) (h1 : q1 < k) (h2 : q2 < n) (h3 : q3 < n) : MI n k d (v + 1) g0 g1 g3 (zup (zup (zup gq (3 * v) (q1 : Int)) (3 * v + 1) (q2 : Int)) (3 * v + 2) (q3 : Int)) κ ν π (nup ss v q1) (nup sf v q2) (nup st v q3) := by
  obtain ⟨a1, a2, a3, a4, a5, a6, a7, a9, a10, a11, b1, b2, b3, b4, b5, b6⟩ := h
  refine ⟨a1, a2, by omega, a4, a5, a6, a7, a9, a10, a11, fun j hj => ?_, up_bd b2 h1, fun j hj => ?_, up_bd b4 h2, fun j hj => ?_, up_bd b6 h3⟩
  · rw [zup_n (by omega), zup_n (by omega)]
    by_cases h4 : j = v
    · subst h4; rw [zup_s, nup_s]
    · rw [zup_n (by omega), nup_n h4]; exact b1 j (by omega)
  · rw [zup_n (by omega)]
    by_cases h4 : j = v
    · subst h4; rw [zup_s, nup_s]
    · rw [zup_n (by omega), zup_n (by omega), nup_n h4]; exact b3 j (by omega)
  · by_cases h4 : j = v
    · subst h4; rw [zup_s, nup_s]
    · rw [zup_n (by omega), zup_n (by omega), zup_n (by omega), nup_n h4]; exact b5 j (by omega)
theorem MI_chg {n k d v : Nat} {g0 g1 g3 gq : Nat → Int} {κ ν π ss sf st : Nat → Nat} {q w m : Nat} (h : MI n k d v g0 g1 g3 gq κ ν π ss sf st) (hq : q < k) (hw : w ≤ 4) (hm : m ≤ 9) : MI n k d v (zup g0 q (w : Int)) (zup g1 q (m : Int)) g3 gq (nup κ q w) (nup ν q m) π ss sf st := by
  obtain ⟨a1, a2, a3, a4, a5, a6, a7, a8⟩ := h
  refine ⟨a1, a2, a3, fun j hj => ?_, fun j hj => ?_, fun j hj => ?_, fun j hj => ?_, a8⟩
  · by_cases h4 : j = q
    · subst h4; rw [zup_s, nup_s]
    · rw [zup_n h4, nup_n h4]; exact a4 j hj
  · by_cases h4 : j = q
    · subst h4; rw [nup_s]; exact hw
    · rw [nup_n h4]; exact a5 j hj
  · by_cases h4 : j = q
    · subst h4; rw [zup_s, nup_s]
    · rw [zup_n h4, nup_n h4]; exact a6 j hj
  · by_cases h4 : j = q
    · subst h4; rw [nup_s]; exact hm
    · rw [nup_n h4]; exact a7 j hj
theorem MI_cp {n k d v : Nat} {g0 g1 g3 gq f0 f1 f3 fq : Nat → Int} {κ ν π ss sf st : Nat → Nat} (h : MI n k d v g0 g1 g3 gq κ ν π ss sf st) : MI n k d v (zcp g0 f0 6) (zcp g1 f1 6) (zcp g3 f3 12) (zcp gq fq 18) κ ν π ss sf st := by
  obtain ⟨a1, a2, a3, a4, a5, a6, a7, a9, a10, a11, b1, b2, b3, b4, b5, b6⟩ := h
  refine ⟨a1, a2, a3, fun j hj => ?_, a5, fun j hj => ?_, a7, fun j hj => ?_, a10, a11, fun j hj => ?_, b2, fun j hj => ?_, b4, fun j hj => ?_, b6⟩
  · rw [zcp_lt (by omega)]; exact a4 j hj
  · rw [zcp_lt (by omega)]; exact a6 j hj
  · rw [zcp_lt (by omega)]; exact a9 j hj
  · rw [zcp_lt (by omega)]; exact b1 j hj
  · rw [zcp_lt (by omega)]; exact b3 j hj
  · rw [zcp_lt (by omega)]; exact b5 j hj
theorem rdc_step {μ : Nat → Nat → Nat} {π : Nat → Nat} {n k i : Nat} (hμ : ∀ a i, a < k → i < n → μ a i < n) (hi : ∀ a, a < k → inj (μ a) n) (h : i < k) : ∀ j, j < n → pa (μ i) n (pa (rdc μ i) n π) j = pa (rdc μ (i + 1)) n π j :=
  pa_comp (φ := rdc μ i) (ψ := μ i) (fun a ha => rdc_lt hμ (by omega) ha) (rdc_inj hμ hi (by omega)) (fun a ha => hμ i a h ha) (hi i h)
