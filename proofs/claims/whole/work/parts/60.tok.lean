/-! templates in order -/
def tPar (T : List (List Int)) (q : Int) : Int := if q < 0 then -1 else ti T q.toNat 4
def tUp (T : List (List Int)) : Nat → Int → Int
  | 0, q => q
  | k + 1, q => tUp T k (tPar T q)
/-- the block q is that of item i or one around it -/
def tSee (T : List (List Int)) (i : Nat) (q : Int) : Prop := ∃ k, q = tUp T k (ti T i 4)
/-- an item that a condition or a count of item i may name -/
def tRef (T : List (List Int)) (i : Nat) (r : Int) : Prop := 0 ≤ r ∧ r < i ∧ tPl T r.toNat ∧ tSee T i (ti T r.toNat 4)
/-- where the block q ends -/
def tEnd (T : List (List Int)) (q : Int) : Int := if q < 0 then (T.length : Int) else ti T q.toNat 5
def tRo1 (T : List (List Int)) (i : Nat) : Prop :=
  ((T.getD i []).length = 13 ∧ 0 ≤ ti T i 0 ∧ ti T i 0 ≤ 7) ∧
  ((ti T i 0 ≤ 5 → 97 ≤ ti T i 1 ∧ ti T i 1 ≤ 122) ∧ (6 ≤ ti T i 0 → ti T i 1 = -1)) ∧
  (ti T i 0 ≤ 1 → fSz (ti T i 2) ∧ (ti T i 3 = 0 ∨ ti T i 3 = 1)) ∧ (2 ≤ ti T i 0 → ti T i 3 = 0) ∧ (ti T i 0 = 2 → ti T i 2 = 1) ∧ (ti T i 0 = 3 ∨ ti T i 0 = 4 → ti T i 2 = 2) ∧ (5 ≤ ti T i 0 → ti T i 2 = 0)
def tRo2 (T : List (List Int)) (i : Nat) : Prop :=
  ((ti T i 6 = -1 ∧ ti T i 7 = 0) ∨ (tRef T i (ti T i 6) ∧ 0 ≤ ti T i 7 ∧ ti T i 7 ≤ 999)) ∧
  ((ti T i 8 = 0 ∧ ti T i 9 = -1 ∧ (ti T i 0 ≤ 5 → ti T i 10 = 0)) ∨ (ti T i 8 = 1 ∧ (ti T i 0 ≤ 1 ∨ ti T i 0 = 5) ∧ ((ti T i 9 = -1 ∧ 0 ≤ ti T i 10 ∧ ti T i 10 ≤ 999) ∨ (tRef T i (ti T i 9) ∧ ti T i 10 = 0)))) ∧
  (6 ≤ ti T i 0 → 0 ≤ ti T i 10 ∧ ti T i 10 ≤ 999) ∧ (ti T i 0 = 7 → 1 ≤ ti T i 10) ∧
  ((2 ≤ ti T i 0 ∧ ti T i 0 ≤ 4 → 0 ≤ ti T i 11 ∧ ti T i 11 ≤ ti T i 12 ∧ ti T i 12 < i ∧ ti T (ti T i 11).toNat 4 = ti T i 4 ∧ ti T (ti T i 12).toNat 4 = ti T i 4) ∧ (ti T i 0 < 2 ∨ 4 < ti T i 0 → ti T i 11 = -1 ∧ ti T i 12 = -1))
def tShp (T : List (List Int)) (i : Nat) : Prop :=
  (ti T i 4 = -1 ∨ (0 ≤ ti T i 4 ∧ ti T i 4 < i ∧ ti T (ti T i 4).toNat 0 = 5 ∧ i < ti T (ti T i 4).toNat 5)) ∧
  (i < ti T i 5 ∧ ti T i 5 ≤ T.length ∧ ti T i 5 ≤ tEnd T (ti T i 4) ∧ (ti T i 5 < tEnd T (ti T i 4) → ti T (ti T i 5).toNat 4 = ti T i 4)) ∧
  (ti T i 0 ≠ 5 → ti T i 5 = i + 1) ∧ ((i : Int) + 1 < ti T i 5 → ti T (i + 1) 4 = i) ∧
  (∀ j : Nat, i < j → (j : Int) < ti T i 5 → i ≤ ti T j 4) ∧ (ti T i 0 = 5 → tUp T 2 (ti T i 4) = -1)
def tOk (T : List (List Int)) : Prop := T.length ≤ 24 ∧ (0 < T.length → ti T 0 4 = -1) ∧ ∀ i, i < T.length → tRo1 T i ∧ tRo2 T i ∧ tShp T i
/-- item i is gone through while the structures of K are gone through -/
def kIn (T : List (List Int)) : zLyK → Nat → Prop
  | [], i => ti T i 4 = -1
  | (t, (c, u)) :: K, i => ti T i 4 = t ∧ t < i ∧ (i : Int) < ti T t 5 ∧ ti T t 0 = 5 ∧ (0 ≤ u ∧ u < c ∧ c ≤ 999) ∧ t < T.length ∧ kIn T K t
/-- the machine may stand at item i with K -/
def kAt (T : List (List Int)) : zLyK → Nat → Prop
  | [], i => i ≤ T.length ∧ (i < T.length → ti T i 4 = -1)
  | (t, (c, u)) :: K, i => t < i ∧ (i : Int) ≤ ti T t 5 ∧ ti T t 0 = 5 ∧ (0 ≤ u ∧ u < c ∧ c ≤ 999) ∧ t < T.length ∧ kIn T K t ∧ ((i : Int) < ti T t 5 → ti T i 4 = t)
/-- the items that have been come to in the present repetitions -/
def vis (T : List (List Int)) (i : Nat) (K : zLyK) (r : Nat) : Prop := r < i ∧ (ti T r 4 = -1 ∨ ∃ x ∈ K, ti T r 4 = (x.1 : Int))
section TOK
variable {T : List (List Int)} {K : zLyK} {i : Nat}
theorem tUp_neg {T : List (List Int)} : ∀ k : Nat, tUp T k (-1) = -1
  | 0 => rfl
  | k + 1 => by rw [tUp]; show tUp T k (if (-1 : Int) < 0 then -1 else _) = -1; rw [if_pos (by omega), tUp_neg k]
theorem kIn_see : ∀ (K : zLyK) (i : Nat) (k : Nat), kIn T K i → tUp T k (ti T i 4) = -1 ∨ ∃ x ∈ K, tUp T k (ti T i 4) = (x.1 : Int)
  | [], i, k, h => by
    have h1 : ti T i 4 = -1 := h
    rw [h1]
    exact Or.inl (tUp_neg k)
  | (t, (c, u)) :: K, i, 0, h => by
    obtain ⟨h1, _⟩ := h
    exact Or.inr ⟨(t, (c, u)), by simp, h1⟩
  | (t, (c, u)) :: K, i, k + 1, h => by
    obtain ⟨h1, h2, h3, h4, h5, h6, h7⟩ := h
    have e : tPar T (ti T i 4) = ti T t 4 := by
      rw [h1]; unfold tPar; rw [if_neg (by omega)]; congr 1
    rw [tUp, e]
    rcases kIn_see K t k h7 with q | ⟨x, q1, q2⟩
    · exact Or.inl q
    · exact Or.inr ⟨x, List.mem_cons_of_mem _ q1, q2⟩
theorem kIn_lt : ∀ (K : zLyK) (i : Nat), kIn T K i → ∀ x ∈ K, x.1 < i ∧ x.1 < T.length ∧ ti T x.1 0 = 5 ∧ (0 ≤ x.2.2 ∧ x.2.2 < x.2.1 ∧ x.2.1 ≤ 999)
  | [], i, h, x, hx => absurd hx (by simp)
  | (t, (c, u)) :: K, i, h, x, hx => by
    obtain ⟨h1, h2, h3, h4, h5, h6, h7⟩ := h
    rcases List.mem_cons.mp hx with q | q
    · rw [q]; exact ⟨h2, h6, h4, h5⟩
    · obtain ⟨a, b⟩ := kIn_lt K t h7 x q
      exact ⟨by omega, b⟩
theorem kIn_top (h : kIn T K i) : ti T i 4 = (match K with | [] => (-1 : Int) | e :: _ => (e.1 : Int)) := by
  cases K with
  | nil => exact h
  | cons e K => obtain ⟨t, c, u⟩ := e; exact h.1
theorem kIn_len (ok : tOk T) (hi : i < T.length) (h : kIn T K i) : K.length ≤ 3 ∧ (ti T i 0 = 5 → K.length ≤ 2) := by
  have key : ∀ (K : zLyK) (i : Nat), i < T.length → kIn T K i → ti T i 0 = 5 → K.length ≤ 2 := by
    intro K i hi h h5
    have u := ((ok.2.2 i hi).2.2.2.2.2.2.2 h5)
    match K, h with
    | [], _ => exact Nat.zero_le _
    | [_], _ => exact Nat.le_succ _
    | [_, _], _ => exact Nat.le_refl _
    | (t1, (c1, u1)) :: (t2, (c2, u2)) :: (t3, (c3, u3)) :: K, h =>
      obtain ⟨a1, _, _, _, _, _, b1, _, _, _, _, _, d1, _⟩ := h
      have e1 : tPar T (ti T i 4) = ti T t1 4 := by rw [a1]; unfold tPar; rw [if_neg (by omega)]; congr 1
      have e2 : tPar T (ti T t1 4) = ti T t2 4 := by rw [b1]; unfold tPar; rw [if_neg (by omega)]; congr 1
      rw [tUp, tUp, tUp, e1, e2, d1] at u
      omega
  refine ⟨?_, key K i hi h⟩
  match K, h with
  | [], _ => exact Nat.zero_le _
  | (t, (c, u)) :: K, h =>
    obtain ⟨h1, h2, h3, h4, h5, h6, h7⟩ := h
    have := key K t h6 h7 h4
    show K.length + 1 ≤ 3
    omega
/-- what is named is there -/
theorem vis_ref {r : Int} (hi : i < T.length) (h : kIn T K i) (hr : tRef T i r) : vis T i K r.toNat := by
  obtain ⟨r0, r1, r2, k, hk⟩ := hr
  refine ⟨by omega, ?_⟩
  rw [hk]
  rcases kIn_see K i k h with q | q
  · exact Or.inl q
  · exact Or.inr q
theorem vis_sib {r : Nat} (h : kIn T K i) (hr : r < i) (e : ti T r 4 = ti T i 4) : vis T i K r := by
  refine ⟨hr, ?_⟩
  rw [e]
  rcases kIn_see K i 0 h with q | q
  · exact Or.inl q
  · exact Or.inr q
/-- behind an item -/
theorem kAt_next (ok : tOk T) (hi : i < T.length) (h : kIn T K i) : kAt T K (ti T i 5).toNat ∧ ∀ r, vis T (ti T i 5).toNat K r → vis T i K r ∨ r = i := by
  obtain ⟨_, _, s1, ⟨s2, s2a, s3, s4⟩, _, _, s5, _⟩ := ok.2.2 i hi
  have lt := kIn_lt K i h
  refine ⟨?_, fun r hr => ?_⟩
  · match K, h with
    | [], h =>
      have h1 : ti T i 4 = -1 := h
      rw [h1] at s3 s4
      unfold tEnd at s3 s4
      rw [if_pos (by omega)] at s3 s4
      exact ⟨by omega, fun q => s4 (by omega)⟩
    | (t, (c, u)) :: K, h =>
      obtain ⟨h1, h2, h3, h4, h5, h6, h7⟩ := h
      rw [h1] at s3 s4
      unfold tEnd at s3 s4
      rw [if_neg (by omega), show (t : Int).toNat = t by omega] at s3 s4
      exact ⟨by omega, by omega, h4, h5, h6, h7, fun q => s4 (by omega)⟩
  · obtain ⟨r1, r2⟩ := hr
    by_cases q : r < i
    · exact Or.inl ⟨q, r2⟩
    · by_cases q2 : r = i
      · exact Or.inr q2
      · exfalso
        have p := s5 r (by omega) (by omega)
        rcases r2 with w | ⟨x, w1, w2⟩
        · omega
        · have := (lt x w1).1
          omega
theorem kAt_in (ok : tOk T) (hi : i < T.length) (h5 : ti T i 0 = 5) (h : kIn T K i) {c u : Int} (hc : 0 ≤ u ∧ u < c ∧ c ≤ 999) : kAt T ((i, (c, u)) :: K) (i + 1) ∧ ∀ r, vis T (i + 1) ((i, (c, u)) :: K) r → vis T i K r ∨ r = i := by
  obtain ⟨_, _, s1, ⟨s2, s2a, s3, s4⟩, _, s6, s5, _⟩ := ok.2.2 i hi
  refine ⟨⟨by omega, by omega, h5, hc, hi, h, fun q => s6 (by omega)⟩, fun r hr => ?_⟩
  obtain ⟨r1, r2⟩ := hr
  by_cases q : r = i
  · exact Or.inr q
  · refine Or.inl ⟨by omega, ?_⟩
    rcases r2 with w | ⟨x, w1, w2⟩
    · exact Or.inl w
    · rcases List.mem_cons.mp w1 with z | z
      · rw [z] at w2
        have hs := (ok.2.2 r (by omega)).2.2.1
        have w3 : ti T r 4 = (i : Int) := w2
        omega
      · exact Or.inr ⟨x, z, w2⟩
theorem kAt_turn (ok : tOk T) {t : Nat} {c u : Int} (h : kAt T ((t, (c, u)) :: K) i) (hu : u + 1 < c) : kAt T ((t, (c, u + 1)) :: K) (t + 1) ∧ ∀ r, vis T (t + 1) ((t, (c, u + 1)) :: K) r → vis T i ((t, (c, u)) :: K) r := by
  obtain ⟨h1, h2, h3, h4, h5, h6, h7⟩ := h
  refine ⟨(kAt_in ok h5 h3 h6 (by omega)).1, fun r hr => ?_⟩
  obtain ⟨r1, r2⟩ := hr
  refine ⟨by omega, ?_⟩
  rcases r2 with w | ⟨x, w1, w2⟩
  · exact Or.inl w
  · rcases List.mem_cons.mp w1 with z | z
    · exact Or.inr ⟨(t, (c, u)), by simp, by rw [w2, z]⟩
    · exact Or.inr ⟨x, List.mem_cons_of_mem _ z, w2⟩
theorem kAt_leave (ok : tOk T) {t : Nat} {c u : Int} (h : kAt T ((t, (c, u)) :: K) i) (he : (i : Int) = ti T t 5) : kAt T K i ∧ ∀ r, vis T i K r → vis T i ((t, (c, u)) :: K) r := by
  obtain ⟨h1, h2, h3, h4, h5, h6, h7⟩ := h
  have n := (kAt_next ok h5 h6).1
  rw [← he, show (i : Int).toNat = i by omega] at n
  refine ⟨n, fun r hr => ?_⟩
  obtain ⟨r1, r2⟩ := hr
  refine ⟨r1, ?_⟩
  rcases r2 with w | ⟨x, w1, w2⟩
  · exact Or.inl w
  · exact Or.inr ⟨x, List.mem_cons_of_mem _ w1, w2⟩
theorem kAt_pass (ok : tOk T) {t : Nat} {c u : Int} (h : kAt T ((t, (c, u)) :: K) i) (he : (i : Int) ≠ ti T t 5) : i < T.length ∧ kIn T ((t, (c, u)) :: K) i := by
  obtain ⟨h1, h2, h3, h4, h5, h6, h7⟩ := h
  have s := (ok.2.2 t h5).2.2.2.1.2.1
  exact ⟨by omega, h7 (by omega), h1, by omega, h3, h4, h5, h6⟩
end TOK
