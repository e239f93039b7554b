/-! the blocks of a template while it is read -/
/-- where a block ends: one that is being read ends where the template ends so far -/
def eE (T : List (List Int)) (K : List Nat) (k : Nat) : Int := if k ∈ K then (T.length : Int) else ti T k 5
def eB (T : List (List Int)) (K : List Nat) (q : Int) : Int := if q < 0 then (T.length : Int) else eE T K q.toNat
def kCh (T : List (List Int)) : List Nat → Prop
  | [] => True
  | i :: K => i < T.length ∧ ti T i 0 = 5 ∧ ti T i 4 = kTop K ∧ (∀ x ∈ K, x < i) ∧ kCh T K
def pShp (T : List (List Int)) (K : List Nat) (k : Nat) : Prop :=
  (ti T k 4 = -1 ∨ (0 ≤ ti T k 4 ∧ ti T k 4 < k ∧ ti T (ti T k 4).toNat 0 = 5 ∧ k < eE T K (ti T k 4).toNat)) ∧
  (k < eE T K k ∧ eE T K k ≤ T.length ∧ eE T K k ≤ eB T K (ti T k 4) ∧ (eE T K k < eB T K (ti T k 4) → ti T (eE T K k).toNat 4 = ti T k 4)) ∧
  (ti T k 0 ≠ 5 → ti T k 5 = k + 1) ∧ ((k : Int) + 1 < eE T K k → ti T (k + 1) 4 = k) ∧
  (∀ j : Nat, k < j → (j : Int) < eE T K k → k ≤ ti T j 4) ∧ (ti T k 0 = 5 → tUp T 2 (ti T k 4) = -1) ∧
  (∀ x ∈ K, k < x → k ∉ K → ti T k 5 ≤ x)
def pInv (T : List (List Int)) (K : List Nat) : Prop := T.length ≤ 24 ∧ K.length ≤ 3 ∧ kCh T K ∧ (0 < T.length → ti T 0 4 = -1) ∧ ∀ k, k < T.length → tRo1 T k ∧ tRo2 T k ∧ pShp T K k
section PSHAPE
variable {T T' : List (List Int)} {K : List Nat}
theorem tUp_ext {n : Nat} (hp : ∀ k, k < n → ti T k 4 < k) (e : ∀ k, k < n → ti T' k 4 = ti T k 4) : ∀ (m : Nat) (q : Int), q < n → tUp T' m q = tUp T m q
  | 0, _, _ => rfl
  | m + 1, q, h => by
    have ep : tPar T' q = tPar T q := by
      unfold tPar
      split
      · rfl
      · exact e _ (by omega)
    rw [tUp, tUp, ep]
    refine tUp_ext hp e m _ ?_
    unfold tPar
    split
    · omega
    · have := hp q.toNat (by omega)
      omega
theorem tRef_ext {k : Nat} {c : Int} (hp : ∀ j, j ≤ k → ti T j 4 < j) (e : ∀ j, j ≤ k → ti T' j 4 = ti T j 4) (e2 : ∀ j, j < k → tPl T j → tPl T' j) (h : tRef T k c) : tRef T' k c := by
  obtain ⟨a, b, p, m, hm⟩ := h
  refine ⟨a, b, e2 _ (by omega) p, m, ?_⟩
  rw [e c.toNat (by omega), hm, e k (Nat.le_refl _)]
  refine (tUp_ext (n := k) (fun j hj => hp j (by omega)) (fun j hj => e j (by omega)) m _ ?_).symm
  have := hp k (Nat.le_refl _)
  omega
theorem par_lt {k : Nat} (h : pShp T K k) : ti T k 4 < k := by
  rcases h.1 with q | q
  · omega
  · exact q.2.1
theorem kCh_mem : ∀ {K : List Nat}, kCh T K → ∀ k ∈ K, k < T.length ∧ ti T k 0 = 5 ∧ (ti T k 4 = -1 ∨ (0 ≤ ti T k 4 ∧ (ti T k 4).toNat ∈ K)) ∧ (k : Int) ≤ kTop K
  | [], _, k, hk => absurd hk (by simp)
  | i :: K, h, k, hk => by
    obtain ⟨h1, h2, h3, h4, h5⟩ := h
    rcases List.mem_cons.mp hk with q | q
    · rw [q]
      refine ⟨h1, h2, ?_, Int.le_refl _⟩
      rw [h3]
      cases K with
      | nil => exact Or.inl rfl
      | cons j K => exact Or.inr ⟨by show (0 : Int) ≤ (j : Int); omega, by show (j : Int).toNat ∈ _; rw [show (j : Int).toNat = j by omega]; simp⟩
    · obtain ⟨a, b, c, d⟩ := kCh_mem h5 k q
      refine ⟨a, b, ?_, ?_⟩
      · rcases c with c | c
        · exact Or.inl c
        · exact Or.inr ⟨c.1, List.mem_cons_of_mem _ c.2⟩
      · have := h4 k q
        show (k : Int) ≤ (i : Int)
        omega
theorem kCh_ext : ∀ {K : List Nat}, T.length ≤ T'.length → (∀ k ∈ K, ti T' k 0 = ti T k 0 ∧ ti T' k 4 = ti T k 4) → kCh T K → kCh T' K
  | [], _, _, _ => trivial
  | i :: K, hl, e, h => by
    obtain ⟨h1, h2, h3, h4, h5⟩ := h
    obtain ⟨a, b⟩ := e i (by simp)
    exact ⟨by omega, by rw [a]; exact h2, by rw [b]; exact h3, h4, kCh_ext hl (fun k hk => e k (List.mem_cons_of_mem _ hk)) h5⟩
/-- a new item behind the others -/
theorem pInv_new {r : List Int} {K' : List Nat} (h : pInv T K) (hl : T.length < 24) (ro : rowOk T (kTop K) r) (hK : (K' = K ∧ r.getD 0 0 ≠ 5) ∨ (K' = T.length :: K ∧ r.getD 0 0 = 5 ∧ K.length ≤ 2)) : pInv (T ++ [r]) K' := by
  obtain ⟨i1, i2, i3, i4, i5⟩ := h
  obtain ⟨ra, rb, rq, re⟩ := ro
  have ll : (T ++ [r]).length = T.length + 1 := by rw [List.length_append]; rfl
  have old : ∀ k f, k < T.length → ti (T ++ [r]) k f = ti T k f := fun k f hk => ti_app hk
  have new : ∀ f, ti (T ++ [r]) T.length f = r.getD f 0 := fun f => ti_new
  have parl : ∀ k, k < T.length → ti T k 4 < k := fun k hk => par_lt (i5 k hk).2.2
  have km := kCh_mem i3
  have topl : kTop K < T.length := by
    cases K with
    | nil => show (-1 : Int) < _; omega
    | cons i K => have := i3.1; show (i : Int) < _; omega
  have mem' : ∀ k, k < T.length → (k ∈ K' ↔ k ∈ K) := fun k hk => by
    rcases hK with ⟨e, _⟩ | ⟨e, _⟩
    · rw [e]
    · rw [e]
      constructor
      · intro w
        rcases List.mem_cons.mp w with z | z
        · omega
        · exact z
      · exact fun w => List.mem_cons_of_mem _ w
  have eo : ∀ k, k ∈ K → eE T K k = T.length ∧ eE (T ++ [r]) K' k = (T.length : Int) + 1 := fun k hk => by
    have kl := (km k hk).1
    unfold eE
    rw [if_pos hk, if_pos ((mem' k kl).mpr hk), ll]
    exact ⟨rfl, by omega⟩
  have ec : ∀ k, k < T.length → k ∉ K → eE T K k = ti T k 5 ∧ eE (T ++ [r]) K' k = ti T k 5 := fun k kl hk => by
    unfold eE
    rw [if_neg hk, if_neg (fun w => hk ((mem' k kl).mp w)), old k 5 kl]
    exact ⟨rfl, rfl⟩
  have en : eE (T ++ [r]) K' T.length = (T.length : Int) + 1 := by
    unfold eE
    split
    · rw [ll]; omega
    · rw [new, re]
  have em : ∀ k, k < T.length → eE T K k ≤ eE (T ++ [r]) K' k := fun k hk => by
    by_cases w : k ∈ K
    · rw [(eo k w).1, (eo k w).2]; omega
    · rw [(ec k hk w).1, (ec k hk w).2]; exact Int.le_refl _
  have upe : ∀ (m : Nat) (q : Int), q < T.length → tUp (T ++ [r]) m q = tUp T m q := fun m q hq => tUp_ext parl (fun k hk => old k 4 hk) m q hq
  have tpl : ∀ j, j < T.length → tPl T j → tPl (T ++ [r]) j := fun j hj w => by unfold tPl; rw [old j 0 hj, old j 8 hj]; exact w
  refine ⟨by omega, ?_, ?_, fun _ => ?_, fun k hk => ?_⟩
  · rcases hK with ⟨e, _⟩ | ⟨e, _, e2⟩
    · rw [e]; exact i2
    · rw [e]; show K.length + 1 ≤ 3; omega
  · have base : kCh (T ++ [r]) K := kCh_ext (by omega) (fun k hk => ⟨old k 0 (km k hk).1, old k 4 (km k hk).1⟩) i3
    rcases hK with ⟨e, _⟩ | ⟨e, e2, e3⟩
    · rw [e]; exact base
    · rw [e]
      exact ⟨by omega, by rw [new, e2], by rw [new, rq], fun x hx => (km x hx).1, base⟩
  · by_cases z : T.length = 0
    · have kn : K = [] := by
        cases K with
        | nil => rfl
        | cons i K => have := i3.1; omega
      have e := new 4
      rw [z] at e
      rw [e, rq, kn]; rfl
    · rw [old 0 4 (by omega)]; exact i4 (by omega)
  · rw [ll] at hk
    by_cases kl : k < T.length
    · -- an old item
      obtain ⟨o1, o2, s1, s2, s3, s4, s5, s6, s7⟩ := i5 k kl
      have e4 := old k 4 kl
      refine ⟨?_, ?_, ?_⟩
      · rw [tRo1_iff] at o1 ⊢
        have eg : (T ++ [r]).getD k [] = T.getD k [] := by rw [List.getD_eq_getElem?_getD, List.getElem?_append_left kl, ← List.getD_eq_getElem?_getD]
        have ef : ti (T ++ [r]) k = ti T k := by funext f; exact old k f kl
        rw [eg, ef]; exact o1
      · rw [tRo2_iff] at o2 ⊢
        have ef : ti (T ++ [r]) k = ti T k := by funext f; exact old k f kl
        rw [ef]
        refine ro2_mono (fun c hc => tRef_ext (fun j hj => parl j (by omega)) (fun j hj => old j 4 (by omega)) (fun j hj w => tpl j (by omega) w) hc) (fun c c0 c1 hc => ?_) o2
        show ti (T ++ [r]) c.toNat 4 = _
        rw [old _ _ (by omega)]; exact hc
      · have s1' : ti T k 4 = -1 ∨ (0 ≤ ti T k 4 ∧ ti T k 4 < k) := by rcases s1 with w | w; exact Or.inl w; exact Or.inr ⟨w.1, w.2.1⟩
        -- the end of the block around k
        have bOpen : (ti T k 4 = -1 ∨ (0 ≤ ti T k 4 ∧ (ti T k 4).toNat ∈ K)) → eB T K (ti T k 4) = T.length ∧ eB (T ++ [r]) K' (ti T k 4) = (T.length : Int) + 1 := fun w => by
          unfold eB
          rcases w with w | ⟨w, w2⟩
          · rw [if_pos (by omega), if_pos (by omega), ll]; exact ⟨rfl, by omega⟩
          · rw [if_neg (by omega), if_neg (by omega)]; exact eo _ w2
        have bCl : 0 ≤ ti T k 4 → (ti T k 4).toNat ∉ K → eB T K (ti T k 4) = ti T (ti T k 4).toNat 5 ∧ eB (T ++ [r]) K' (ti T k 4) = ti T (ti T k 4).toNat 5 := fun w w2 => by
          unfold eB
          rw [if_neg (by omega), if_neg (by omega)]
          exact ec _ (by omega) w2
        unfold pShp
        rw [e4, old k 0 kl, old k 5 kl]
        refine ⟨?_, ?_, s3, ?_, ?_, fun w => ?_, fun x hx hkx hnk => ?_⟩
        · rcases s1 with w | ⟨w1, w2, w3, w4⟩
          · exact Or.inl w
          · have := em (ti T k 4).toNat (by omega)
            exact Or.inr ⟨w1, w2, by rw [old _ _ (by omega)]; exact w3, by omega⟩
        · by_cases w : k ∈ K
          · obtain ⟨q1, q2⟩ := eo k w
            have bo := bOpen (km k w).2.2.1
            rw [q2, bo.2, ll]
            exact ⟨by omega, by omega, by omega, fun z => by omega⟩
          · obtain ⟨q1, q2⟩ := ec k kl w
            rw [q1] at s2
            rw [q2, ll]
            obtain ⟨a1, a2, a3, a4⟩ := s2
            by_cases bo : ti T k 4 = -1 ∨ (0 ≤ ti T k 4 ∧ (ti T k 4).toNat ∈ K)
            · obtain ⟨b1, b2⟩ := bOpen bo
              rw [b1] at a3 a4
              rw [b2]
              refine ⟨a1, by omega, by omega, fun _ => ?_⟩
              by_cases z : ti T k 5 < T.length
              · rw [old _ _ (by omega)]; exact a4 z
              · -- it ends where the template ends: the new item is its next sibling
                have e5 : (ti T k 5).toNat = T.length := by omega
                rw [e5, new, rq]
                cases K with
                | nil =>
                  rcases bo with z2 | ⟨_, z2⟩
                  · rw [z2]; rfl
                  · exact absurd z2 (by simp)
                | cons i K =>
                  have hik : k ≠ i := fun e => w (by rw [e]; simp)
                  by_cases lt : k < i
                  · have := s7 i (by simp) lt w
                    have := i3.1
                    omega
                  · have il := i3.1
                    have s5i := (i5 i il).2.2.2.2.2.2.1 k (by omega) (by rw [(eo i (by simp)).1]; omega)
                    rcases bo with z2 | ⟨z1, z2⟩
                    · omega
                    · have := (km _ z2).2.2.2
                      have e6 : kTop (i :: K) = (i : Int) := rfl
                      rw [e6] at this ⊢
                      omega
            · have q0 : 0 ≤ ti T k 4 := by
                rcases s1' with z | z
                · exact absurd (Or.inl z) bo
                · exact z.1
              obtain ⟨b1, b2⟩ := bCl q0 (fun z => bo (Or.inr ⟨q0, z⟩))
              rw [b1] at a3 a4
              rw [b2]
              have pl := (i5 (ti T k 4).toNat (by omega)).2.2.2.1.2.1
              rw [(ec _ (by omega) (fun z => bo (Or.inr ⟨q0, z⟩))).1] at pl
              exact ⟨a1, by omega, a3, fun z => by rw [old _ _ (by omega)]; exact a4 z⟩
        · by_cases w : k ∈ K
          · obtain ⟨q1, q2⟩ := eo k w
            rw [q2]
            intro z
            by_cases z2 : k + 1 < T.length
            · rw [old _ _ z2]; exact s4 (by rw [q1]; omega)
            · have e6 : k + 1 = T.length := by omega
              rw [e6, new, rq]
              have := (km k w).2.2.2
              omega
          · obtain ⟨q1, q2⟩ := ec k kl w
            rw [q2]
            rw [q1] at s4 s2
            intro z
            rw [old _ _ (by omega)]
            exact s4 z
        · by_cases w : k ∈ K
          · obtain ⟨q1, q2⟩ := eo k w
            rw [q2]
            intro j hj z
            by_cases z2 : j < T.length
            · rw [old _ _ z2]; exact s5 j hj (by rw [q1]; omega)
            · have e6 : j = T.length := by omega
              rw [e6, new, rq]
              exact (km k w).2.2.2
          · obtain ⟨q1, q2⟩ := ec k kl w
            rw [q2]
            rw [q1] at s5 s2
            intro j hj z
            rw [old _ _ (by omega)]
            exact s5 j hj z
        · rw [upe 2 _ (by omega)]; exact s6 w
        · have nk : k ∉ K := fun z => hnk ((mem' k kl).mpr z)
          rcases hK with ⟨e, _⟩ | ⟨e, _⟩
          · rw [e] at hx; exact s7 x hx hkx nk
          · rw [e] at hx
            rcases List.mem_cons.mp hx with z | z
            · rw [(ec k kl nk).1] at s2
              rw [z]; exact s2.2.1
            · exact s7 x z hkx nk
    · -- the new one
      have ek : k = T.length := by omega
      rw [ek]
      refine ⟨?_, ?_, ?_⟩
      · rw [tRo1_iff]
        have eg : (T ++ [r]).getD T.length [] = r := by rw [List.getD_eq_getElem?_getD, List.getElem?_append_right (Nat.le_refl _), Nat.sub_self]; rfl
        have ef : ti (T ++ [r]) T.length = fun f => r.getD f 0 := by funext f; exact new f
        rw [eg, ef]; exact ra
      · rw [tRo2_iff]
        have ef : ti (T ++ [r]) T.length = fun f => r.getD f 0 := by funext f; exact new f
        rw [ef]
        refine ro2_mono (fun c hc => ?_) (fun c c0 c1 hc => ?_) rb
        · obtain ⟨c1, c2, c3, m, c4⟩ := hc
          refine ⟨c1, c2, tpl _ (by omega) c3, m, ?_⟩
          rw [old _ _ (by omega), c4, new, rq, upe m _ topl]
        · have hc' : ti T c.toNat 4 = kTop K := hc
          show ti (T ++ [r]) c.toNat 4 = r.getD 4 0
          rw [old _ _ (by omega), hc', rq]
      · have bo : eB (T ++ [r]) K' (kTop K) = (T.length : Int) + 1 := by
          unfold eB
          cases K with
          | nil => rw [if_pos (by show (-1 : Int) < 0; omega), ll]; omega
          | cons i K => rw [if_neg (by show ¬ (i : Int) < 0; omega)]; exact (eo i (by simp)).2
        unfold pShp
        rw [en, new 4, new 0, new 5, rq, bo, re]
        refine ⟨?_, ⟨by omega, by omega, by omega, fun z => by omega⟩, fun _ => rfl, fun z => by omega, fun j hj z => by omega, fun w => ?_, fun x hx hkx hnk => ?_⟩
        · cases K with
          | nil => exact Or.inl rfl
          | cons i K =>
            have il := i3.1
            refine Or.inr ⟨by show (0 : Int) ≤ (i : Int); omega, by show (i : Int) < _; omega, ?_, ?_⟩
            · show ti (T ++ [r]) (i : Int).toNat 0 = 5
              rw [show (i : Int).toNat = i by omega, old _ _ il]; exact i3.2.1
            · show (T.length : Int) < eE (T ++ [r]) K' (i : Int).toNat
              rw [show (i : Int).toNat = i by omega, (eo i (by simp)).2]; omega
        · rcases hK with ⟨_, e⟩ | ⟨e, e2, e3⟩
          · exact absurd w e
          · rw [upe 2 _ topl]
            match K, i3, e3 with
            | [], _, _ => exact tUp_neg 2
            | [x], i3, _ =>
              have e1 : tPar T ((x : Nat) : Int) = -1 := by unfold tPar; rw [if_neg (by omega), show ((x : Nat) : Int).toNat = x by omega, i3.2.2.1]; rfl
              show tUp T 2 (x : Int) = -1
              rw [tUp, e1]; exact tUp_neg 1
            | [x, y], i3, _ =>
              have e1 : tPar T ((x : Nat) : Int) = (y : Int) := by unfold tPar; rw [if_neg (by omega), show ((x : Nat) : Int).toNat = x by omega, i3.2.2.1]; rfl
              have e2 : tPar T ((y : Nat) : Int) = -1 := by unfold tPar; rw [if_neg (by omega), show ((y : Nat) : Int).toNat = y by omega, i3.2.2.2.2.2.2.1]; rfl
              show tUp T 2 (x : Int) = -1
              rw [tUp, e1, tUp, e2]; rfl
        · rcases hK with ⟨e, _⟩ | ⟨e, _⟩
          · rw [e] at hx
            have := (km x hx).1
            omega
          · rw [e] at hx
            rcases List.mem_cons.mp hx with z | z
            · omega
            · have := (km x z).1
              omega
/-- a structure is at its end -/
theorem pInv_close {i : Nat} {c : Int × (Int × Int)} (h : pInv T (i :: K)) (hc : ctOk (pRe T (ti T i 4) i) c) : pInv (tCl T i c) K := by
  obtain ⟨i1, i2, i3, i4, i5⟩ := h
  have il := i3.1
  have k5 := i3.2.1
  have ne : ∀ k f, k ≠ i → ti (tCl T i c) k f = ti T k f := fun k f hk => ti_cl_ne hk
  have at_ : ∀ f, ti (tCl T i c) i f = (rw13 (ti T i 0) (ti T i 1) (ti T i 2) (ti T i 3) (ti T i 4) (T.length : Int) (ti T i 6) (ti T i 7) c.1 c.2.1 c.2.2 (ti T i 11) (ti T i 12)).getD f 0 := fun f => ti_cl il
  have s0 : ∀ k, ti (tCl T i c) k 0 = ti T k 0 := fun k => by
    by_cases q : k = i
    · rw [q, at_]; rfl
    · exact ne k 0 q
  have s4 : ∀ k, ti (tCl T i c) k 4 = ti T k 4 := fun k => by
    by_cases q : k = i
    · rw [q, at_]; rfl
    · exact ne k 4 q
  have parl : ∀ k, k < T.length → ti T k 4 < k := fun k hk => par_lt (i5 k hk).2.2
  have km := kCh_mem i3
  have niK : i ∉ K := fun w => by have := i3.2.2.2.1 i w; omega
  have eEe : ∀ k, eE (tCl T i c) K k = eE T (i :: K) k := fun k => by
    unfold eE
    rw [tCl_len]
    by_cases q : k = i
    · rw [q, if_neg niK, if_pos (by simp), at_]; rfl
    · by_cases w : k ∈ K
      · rw [if_pos w, if_pos (List.mem_cons_of_mem _ w)]
      · rw [if_neg w, if_neg (fun z => by rcases List.mem_cons.mp z with y | y; exact q y; exact w y), ne k 5 q]
  have eBe : ∀ q, eB (tCl T i c) K q = eB T (i :: K) q := fun q => by
    unfold eB
    rw [tCl_len]
    split
    · rfl
    · exact eEe _
  have tpl : ∀ j, tPl T j → tPl (tCl T i c) j := fun j w => by
    by_cases q : j = i
    · rw [q] at w
      have := w.1
      omega
    · unfold tPl; rw [ne j 0 q, ne j 8 q]; exact w
  refine ⟨by rw [tCl_len]; exact i1, by have : K.length + 1 ≤ 3 := i2; omega, kCh_ext (by rw [tCl_len]; exact Nat.le_refl _) (fun k hk => ⟨s0 k, s4 k⟩) i3.2.2.2.2, fun w => by rw [s4]; exact i4 (by rw [tCl_len] at w; exact w), fun k hk => ?_⟩
  rw [tCl_len] at hk
  obtain ⟨o1, o2, p1, p2, p3, p4, p5, p6, p7⟩ := i5 k hk
  have rf : ∀ j, j < T.length → ∀ z, tRef T j z → tRef (tCl T i c) j z := fun j hj z hz => tRef_ext (fun x hx => parl x (by omega)) (fun x hx => s4 x) (fun x hx w => tpl x w) hz
  refine ⟨?_, ?_, ?_⟩
  · rw [tRo1_iff] at o1 ⊢
    by_cases q : k = i
    · rw [q] at o1 ⊢
      have eg : ((tCl T i c).getD i []).length = 13 := by
        unfold tCl
        rw [List.getD_eq_getElem?_getD, List.getElem?_set_self il]
        rfl
      have ef : ti (tCl T i c) i = fun f => (rw13 (ti T i 0) (ti T i 1) (ti T i 2) (ti T i 3) (ti T i 4) (T.length : Int) (ti T i 6) (ti T i 7) c.1 c.2.1 c.2.2 (ti T i 11) (ti T i 12)).getD f 0 := by funext f; exact at_ f
      rw [eg, ef]
      obtain ⟨⟨_, a2⟩, a3⟩ := o1
      exact ⟨⟨rfl, a2⟩, a3⟩
    · have eg : (tCl T i c).getD k [] = T.getD k [] := by
        unfold tCl
        rw [List.getD_eq_getElem?_getD, List.getElem?_set_ne (fun e => q e.symm), ← List.getD_eq_getElem?_getD]
      have ef : ti (tCl T i c) k = ti T k := by funext f; exact ne k f q
      rw [eg, ef]; exact o1
  · rw [tRo2_iff] at o2 ⊢
    have o2' : ro2 (tRef (tCl T i c) k) (fun z => ti (tCl T i c) z.toNat 4 = ti (tCl T i c) k 4) k (ti T k) := ro2_mono (rf k hk) (fun z z0 z1 hz => by
      show ti (tCl T i c) z.toNat 4 = ti (tCl T i c) k 4
      rw [s4, s4]; exact hz) o2
    by_cases q : k = i
    · rw [q] at o2' ⊢
      have ef : ti (tCl T i c) i = fun f => (rw13 (ti T i 0) (ti T i 1) (ti T i 2) (ti T i 3) (ti T i 4) (T.length : Int) (ti T i 6) (ti T i 7) c.1 c.2.1 c.2.2 (ti T i 11) (ti T i 12)).getD f 0 := by funext f; exact at_ f
      rw [show ro2 (tRef (tCl T i c) i) (fun z => ti (tCl T i c) z.toNat 4 = ti (tCl T i c) i 4) i (ti (tCl T i c) i) = ro2 (tRef (tCl T i c) i) (fun z => ti (tCl T i c) z.toNat 4 = ti (tCl T i c) i 4) i (fun f => (rw13 (ti T i 0) (ti T i 1) (ti T i 2) (ti T i 3) (ti T i 4) (T.length : Int) (ti T i 6) (ti T i 7) c.1 c.2.1 c.2.2 (ti T i 11) (ti T i 12)).getD f 0) by rw [← ef]]
      obtain ⟨a1, a2, a3, a4, a5, a6⟩ := o2'
      refine ⟨a1, ?_, fun w => ?_, fun w => ?_, a5, a6⟩
      · rcases hc with ⟨c1, c2, c3⟩ | ⟨c1, c2⟩
        · exact Or.inl ⟨c1, c2, fun _ => c3⟩
        · refine Or.inr ⟨c1, Or.inr k5, ?_⟩
          rcases c2 with c2 | ⟨⟨d1, d2, d3, m, d4⟩, c3⟩
          · exact Or.inl c2
          · refine Or.inr ⟨rf i il _ ⟨d1, d2, d3, m, d4⟩, c3⟩
      · have w' : 6 ≤ ti T i 0 := w
        omega
      · have w' : ti T i 0 = 7 := w
        omega
    · have ef : ti (tCl T i c) k = ti T k := by funext f; exact ne k f q
      rw [ef] at o2' ⊢
      exact o2'
  · unfold pShp
    simp only [eEe, eBe, s4, s0, tCl_len]
    refine ⟨p1, p2, fun w => ?_, p4, p5, fun w => ?_, fun x hx hkx hnk => ?_⟩
    · by_cases q : k = i
      · rw [q] at w; exact absurd k5 w
      · rw [ne k 5 q]; exact p3 w
    · rw [tUp_ext parl (fun j hj => s4 j) 2 _ (by have := parl k hk; omega)]; exact p6 w
    · by_cases q : k = i
      · have := i3.2.2.2.1 x hx
        omega
      · rw [ne k 5 q]
        exact p7 x (List.mem_cons_of_mem _ hx) hkx (fun z => by rcases List.mem_cons.mp z with y | y; exact q y; exact hnk y)
theorem pInv_ok (h : pInv T []) : tOk T := by
  obtain ⟨i1, i2, i3, i4, i5⟩ := h
  refine ⟨i1, i4, fun k hk => ?_⟩
  obtain ⟨o1, o2, p1, p2, p3, p4, p5, p6, p7⟩ := i5 k hk
  have ee : ∀ j, eE T [] j = ti T j 5 := fun j => by unfold eE; rw [if_neg (by simp)]
  have eb : ∀ q, eB T [] q = tEnd T q := fun q => by unfold eB tEnd; split; rfl; exact ee _
  rw [ee, eb] at p2
  rw [ee] at p4 p5
  refine ⟨o1, o2, ?_, p2, p3, p4, p5, p6⟩
  rcases p1 with w | w
  · exact Or.inl w
  · rw [ee] at w; exact Or.inr w
theorem pInv_step {t : List Int} {c c' : zPC} (hp : c.1 ≤ t.length) (h : pInv c.2.2 c.2.1) (e : pStep t c = .inr c') : pInv c'.2.2 c'.2.1 ∧ c'.1 ≤ t.length ∧ c.1 < c'.1 := by
  obtain ⟨p, K, T⟩ := c
  have hp : p ≤ t.length := hp
  have it : ∀ K, K.length ≤ 3 → pInv T K → ∀ y, pItm t T (kTop K) K.length p = .inr y → (if y.2.2 = true then (.inr (y.1, (K, T ++ [y.2.1])) : Nat ⊕ zPC) else .inr (y.1, (T.length :: K, T ++ [y.2.1]))) = .inr c' → pInv c'.2.2 c'.2.1 ∧ c'.1 ≤ t.length ∧ p < c'.1 := by
    intro K hl h y e1 e2
    obtain ⟨a1, a2, a3, a4, a5, a6⟩ := pItm_ok hp e1
    by_cases ov : y.2.2 = true
    · rw [if_pos ov] at e2
      have e3 := Sum.inr.inj e2
      rw [← e3]
      exact ⟨pInv_new h a1 a2 (Or.inl ⟨rfl, a3 ov⟩), a6, a5⟩
    · rw [if_neg ov] at e2
      have e3 := Sum.inr.inj e2
      rw [← e3]
      have ov' : y.2.2 = false := by cases hh : y.2.2 with | true => exact absurd hh ov | false => rfl
      obtain ⟨b1, b2⟩ := a4 ov'
      exact ⟨pInv_new h a1 a2 (Or.inr ⟨rfl, b1, by omega⟩), a6, a5⟩
  cases K with
  | nil =>
    obtain ⟨y, e1, e2⟩ := pB_ok (show pB (pItm t T (-1) 0 p) _ = .inr c' from e)
    exact it [] (by show 0 ≤ 3; omega) h y e1 e2
  | cons i K =>
    rw [pStep] at e
    split at e
    · rename_i c125
      obtain ⟨y, e1, e2⟩ := pB_ok e
      have e3 := Sum.inr.inj e2
      unfold pClo at e1
      obtain ⟨z, e4, e1⟩ := pB_ok e1
      obtain ⟨p3, e5, e1⟩ := pB_ok e1
      have e6 := Sum.inr.inj e1
      have pl := tg_lt (t := t) (p := p) (by omega)
      have b1 := bl_le (t := t) (i := p + 1) (by omega)
      obtain ⟨c1, c2, c3⟩ := pCt_ok b1.2 e4
      have q5 := pSg_ok e5 (by omega)
      rw [← e3, ← e6]
      exact ⟨pInv_close h c1, q5.2, by show p < p3; omega⟩
    · obtain ⟨y, e1, e2⟩ := pB_ok e
      exact it (i :: K) h.2.1 h y e1 e2
theorem pInv_W {t : List Int} : ∀ {n : Nat} {c c' : zPC}, c.1 ≤ t.length → pInv c.2.2 c.2.1 → pW t n c c' → pInv c'.2.2 c'.2.1 ∧ c'.1 ≤ t.length
  | 0, c, c', hp, h, w => by
    have e : c = c' := w
    rw [← e]; exact ⟨h, hp⟩
  | n + 1, c, c', hp, h, w => by
    obtain ⟨_, c1, s, w⟩ := w
    obtain ⟨a, b, _⟩ := pInv_step hp h s
    exact pInv_W b a w
theorem pInv_nil : pInv [] [] := ⟨by show 0 ≤ 24; omega, by show 0 ≤ 3; omega, trivial, fun h => absurd h (by show ¬ 0 < 0; omega), fun k hk => absurd hk (by show ¬ k < 0; omega)⟩
theorem pDn_ok {t : List Int} (h : pDn t (bl t 0, ([], [])) T) : tOk T := by
  obtain ⟨n, c', w, e, eT⟩ := h
  have q := (pInv_W (t := t) (c := (bl t 0, ([], []))) (bl_le (Nat.zero_le _)).2 pInv_nil w).1
  rw [e.1, eT] at q
  exact pInv_ok q
end PSHAPE
