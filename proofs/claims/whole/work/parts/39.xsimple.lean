/-! simple calls of the class -/
def pFitB (p : Int × Int) (b : Int) : Bool := (p.1 == 16 || p.1 == b / 16) && (p.2 == 16 || p.2 == b % 16)
def pFitsB (ps : List (Int × Int)) (bs : List Int) (i : Int) : Bool := decide (i + ps.length ≤ bs.length) && (List.range ps.length).all (fun j => pFitB (ps.getD j (0, 0)) (tg bs (i + j).toNat))
theorem pFits_iff {ps : List (Int × Int)} {bs : List Int} {i : Int} : pFits ps bs i ↔ pFitsB ps bs i = true := by
  unfold pFits pFitsB pFit pFitB
  simp [List.all_eq_true]
def fndB (f : Nat → Bool) (n : Nat) : Nat → Nat → Int
  | 0, _ => -1009
  | k + 1, i => if n ≤ i then -1009 else if f i = true then (i : Int) else fndB f n k (i + 1)
def cntB (f : Nat → Bool) : Nat → Int
  | 0 => 0
  | n + 1 => cntB f n + (if f n = true then 1 else 0)
theorem cntB_bd (f : Nat → Bool) : ∀ n, 0 ≤ cntB f n ∧ cntB f n ≤ n
  | 0 => by simp [cntB]
  | n + 1 => by
    have := cntB_bd f n
    rw [cntB]
    split <;> omega
/-- what find and matches answer, by the text and the bytes -/
def rFind (t bs : List Int) (i : Int) : Int := if 0 ≤ i ∧ i ≤ 200 then (if (pf t).1 = -1009 then fndB (fun p => pFitsB (pf t).2 bs p) bs.length (bs.length + 1) i.toNat else -1002) else -1001
def rMatches (t bs : List Int) : Int := if (pf t).1 = -1009 then cntB (fun p => pFitsB (pf t).2 bs p) bs.length else -1002
/-- what difference answers -/
def rDiff (bs ms : List Int) (i : Int) : Int := if 0 ≤ i ∧ i ≤ 200 then fndB (fun p => decide (tg bs p ≠ tg ms p)) (max bs.length ms.length) (max bs.length ms.length + 1) i.toNat else -1001
section XS
variable {G : zG} {d : Nat} {Q : Option zV → zHp → Prop} {h : zHp}
theorem sp_X10_isWithin {x y z : Int} (hS : zSh h) (k : ∀ r, (y ≤ x ∧ x ≤ z ∧ r = 1) ∨ (¬ (y ≤ x ∧ x ≤ z) ∧ r = 0) → Q (some (vI r)) h) : wpN G d M_X10_isWithin 0 (zar 0 [vI x, vI y, vI z]) [] h Q :=
  vc_X10_isWithin_0 x y z h hS (Nat.zero_le _) ⟨fun c => k _ (Or.inr ⟨by omega, rfl⟩), fun c => ⟨fun c2 => k _ (Or.inr ⟨by omega, rfl⟩), fun c2 => k _ (Or.inl ⟨c, c2, rfl⟩)⟩⟩
theorem sp_X10_type {l : Int} (hd : 1 ≤ d) (hS : zSh h) (hz : rOk h 2) (kB : ¬ (0 ≤ l ∧ l ≤ 127) → Q (some (vI (-1001))) h) (kF : (0 ≤ l ∧ l ≤ 127) → (tX h).length = 120 → Q (some (vI (-1003))) h) (k : ∀ h', (0 ≤ l ∧ l ≤ 127) → (tX h).length < 120 → zSh h' → zF3 (fun b => b = 2 ∨ b = 3) h h' → tX h' = tX h ++ [l] → rOk h' 2 → Q (some (vI ((tX h).length + 1))) h') : wpN G d M_X10_type 0 (zar 0 [vR 1, vI l]) [] h Q := by
  obtain ⟨z1, z2⟩ := hz
  have z3 : gI h 2 1 ≤ 120 := z2
  have hl : ((tX h).length : Int) = gI h 2 1 := by unfold tX; rw [lst_len]; omega
  have e120 : zlen (2 + 1) = 120 := by decide +kernel
  refine vc_X10_type_0 l h hS hd (sp_X10_isWithin hS (fun r er => qI_i ⟨hS, fun c => sp_X0_append tT_2 hS ⟨z1, z2⟩ (fun w => qI_i ⟨hS, fun q => by omega, fun _ => ?_⟩) (fun w => qI_i ⟨hS, fun _ => kF (by omega) (by omega), fun q => absurd rfl q⟩), fun c => kB (by omega)⟩))
  have e1 : gI (rApp h 2 l) 2 1 = gI h 2 1 + 1 := by unfold rApp; rw [gI_sI, if_pos ⟨rfl, rfl⟩]
  have e2 : ∀ j : Nat, gI (rApp h 2 l) 3 j = if (j : Int) = gI h 2 1 then l else gI h 3 j := by
    intro j
    unfold rApp
    rw [gI_sI, if_neg (by omega), gI_sI]
    by_cases q : (j : Int) = gI h 2 1
    · rw [if_pos ⟨rfl, by omega⟩, if_pos q]
    · rw [if_neg (by omega), if_neg q]
  rw [e1, ← hl]
  refine k (rApp h 2 l) (by omega) (by omega) hS ((zF3.sI (Or.inr rfl)).tr (zF3.sI (Or.inl rfl))) ?_ ⟨by omega, by omega⟩
  apply List.ext_getElem?
  intro j
  by_cases q : (j : Int) < gI h 2 1
  · rw [List.getElem?_append_left (by omega)]
    unfold tX
    rw [lst_get (by omega), lst_get q, e2, if_neg (by omega)]
  · by_cases q2 : (j : Int) = gI h 2 1
    · rw [List.getElem?_append_right (by omega), show j - (tX h).length = 0 by omega]
      unfold tX
      rw [lst_get (by omega), e2, if_pos q2]
      rfl
    · rw [List.getElem?_eq_none (by unfold tX; rw [lst_len]; omega), List.getElem?_eq_none (by simp; omega)]
theorem sp_X10_clearText (hS : zSh h) (hz : rOk h 2) (k : ∀ h', zSh h' → zF3 (fun b => b = 2 ∨ b = 3) h h' → tX h' = [] → rOk h' 2 → Q (some (vI ((tX h).length : Nat))) h') : wpN G d M_X10_clearText 0 (zar 0 [vR 1]) [] h Q := by
  have hl : ((tX h).length : Int) = gI h 2 1 := by unfold tX; rw [lst_len]; have := hz.1; omega
  refine vc_X10_clearText_0 h hS (Nat.zero_le _) (fun x1 e1 h3 e3 => ?_)
  have e2 : gI h3 2 1 = 0 := by rw [e3, gI_sI, if_pos ⟨rfl, rfl⟩]
  rw [e1, ← hl]
  refine k h3 (by rw [e3]; exact hS) (by rw [e3]; exact zF3.sI (Or.inl rfl)) (by unfold tX; rw [e2]; rfl) ⟨by omega, by omega⟩
theorem sp_X10_patternFault (hd : 2 ≤ d) (hS : zSh h) (hz : rOk h 2) (k : ∀ h', zSh h' → zF3 pI h h' → Q (some (vI (pf (tX h)).1)) h') : wpN G d M_X10_patternFault 0 (zar 0 [vR 1]) [] h Q :=
  vc_X10_patternFault_0 h hS hd (sp_X7_faultOf (by omega) hS hz (fun g s F _ => qI_i ⟨s, k g s F⟩))
theorem dv8_pI {h h' : zHp} (F : zF3 pI h h') : dv h' 8 = dv h 8 := dv_f3 8 F (by rintro b ⟨q1, q2⟩ ⟨q3, q4⟩; omega)
theorem dOk8_pI {h h' : zHp} (F : zF3 pI h h') (k : dOk h 8) : dOk h' 8 := dOk_f3 F (by rintro b ⟨q1, q2⟩ ⟨q3, q4⟩; omega) k
theorem dv8_len {h : zHp} (k : dOk h 8) : ((dv h 8).1.length : Int) = gI h 9 1 := by
  show ((lst (gI h 10) (gI h 9 1)).length : Int) = _
  rw [lst_len]
  have : 0 ≤ gI h 9 1 := k.1.1
  omega
theorem sp_X10_find {i : Int} (hd : 2 ≤ d) (hS : zSh h) (hz : rOk h 2) (h8 : dOk h 8) (k : ∀ h', zSh h' → zF3 pI h h' → Q (some (vI (rFind (tX h) (dv h 8).1 i))) h') : wpN G d M_X10_find 0 (zar 0 [vR 1, vI i]) [] h Q := by
  have hl := dv8_len h8
  have w1 : 0 ≤ gI h 9 1 := h8.1.1
  have w2 : gI h 9 1 ≤ 200 := h8.1.2
  have loop : ∀ (n p : Nat) (g : zHp), zSh g → zF3 pI h g → pP g (pf (tX h)).2 → (dv h 8).1.length < p + n → p ≤ 201 → fndB (fun p => pFitsB (pf (tX h)).2 (dv h 8).1 p) (dv h 8).1.length n p = rFind (tX h) (dv h 8).1 i → wpN G d M_X10_find 38 [(0, vR 1), (1, vI i), (2, vI (p : Int))] [] g Q := by
    intro n
    induction n with
    | zero =>
      intro p g s F P hn hp e
      have e9 : gI g 9 1 = gI h 9 1 := (F 9 (by rintro ⟨a, b⟩; omega)).1 1
      rw [fndB] at e
      refine vc_X10_find_38 i p g s hd (fun _ _ _ => False) (fun _ _ _ q => q.elim) ⟨fun c => by rw [e]; exact k g s F, fun c => by omega⟩
    | succ n ih =>
      intro p g s F P hn hp e
      have e9 : gI g 9 1 = gI h 9 1 := (F 9 (by rintro ⟨a, b⟩; omega)).1 1
      have ed : dv g 8 = dv h 8 := dv8_pI F
      rw [fndB] at e
      refine vc_X10_find_38 i p g s hd (fun y1 y2 g' => y1 = i ∧ y2 = ((p + 1 : Nat) : Int) ∧ g' = g ∧ p + 1 ≤ 201 ∧ fndB (fun p => pFitsB (pf (tX h)).2 (dv h 8).1 p) (dv h 8).1.length n (p + 1) = rFind (tX h) (dv h 8).1 i) ?_ ⟨fun c => ?_, fun c => ?_⟩
      · rintro _ _ _ ⟨q0, q1, q2, q3, q4⟩
        rw [q0, q1, q2]
        exact ih (p + 1) g s F P (by omega) q3 q4
      · rw [if_pos (by omega)] at e
        rw [e]; exact k g s F
      · rw [if_neg (by omega)] at e
        refine sp_X7_fits (by omega) s (dOk8_pI F h8) P (by omega) (by omega) (fun t => qI_i ⟨s, fun z => by omega, fun _ => ?_⟩) (fun t => qI_i ⟨s, fun _ => ⟨by omega, fun x ex _ => ⟨rfl, by omega, rfl, by omega, ?_⟩⟩, fun z => absurd rfl z⟩)
        · rw [ed, pFits_iff] at t
          rw [if_pos t] at e
          rw [e]; exact k g s F
        · rw [ed, pFits_iff] at t
          rw [if_neg t] at e
          exact e
  refine vc_X10_find_0 i h hS hd (fun y1 y2 g' => y1 = i ∧ y2 = ((i.toNat : Nat) : Int) ∧ 0 ≤ i ∧ i ≤ 200 ∧ zSh g' ∧ zF3 pI h g' ∧ pP g' (pf (tX h)).2 ∧ (pf (tX h)).1 = -1009) ?_ (sp_X10_isWithin hS (fun r er => qI_i ⟨hS, fun c => sp_X7_faultOf (by omega) hS hz (fun g s F P => qI_i ⟨s, fun c1 _ => ⟨rfl, by omega, by omega, by omega, s, F, P, c1⟩, fun c1 => ?_⟩), fun c => ?_⟩))
  · rintro _ _ g' ⟨q0, q1, q2, q3, q4, q5, q6, q7⟩
    rw [q0, q1]
    refine loop ((dv h 8).1.length + 1) i.toNat g' q4 q5 q6 (by omega) (by omega) ?_
    unfold rFind
    rw [if_pos ⟨q2, q3⟩, if_pos q7]
  · have := k g s F
    unfold rFind at this
    rw [if_pos (by omega), if_neg c1] at this
    exact this
  · have := k h hS zF3.rf
    unfold rFind at this
    rw [if_neg (by omega)] at this
    exact this
theorem sp_X10_matches (hd : 2 ≤ d) (hS : zSh h) (hz : rOk h 2) (h8 : dOk h 8) (k : ∀ h', zSh h' → zF3 pI h h' → Q (some (vI (rMatches (tX h) (dv h 8).1))) h') : wpN G d M_X10_matches 0 (zar 0 [vR 1]) [] h Q := by
  have hl := dv8_len h8
  have w1 : 0 ≤ gI h 9 1 := h8.1.1
  have w2 : gI h 9 1 ≤ 200 := h8.1.2
  have loop : ∀ (n p : Nat) (g : zHp), zSh g → zF3 pI h g → pP g (pf (tX h)).2 → p + n = (dv h 8).1.length → (pf (tX h)).1 = -1009 → wpN G d M_X10_matches 25 [(0, vR 1), (1, vI (cntB (fun p => pFitsB (pf (tX h)).2 (dv h 8).1 p) p)), (2, vI (p : Int))] [] g Q := by
    intro n
    induction n with
    | zero =>
      intro p g s F P hn hf
      have e9 : gI g 9 1 = gI h 9 1 := (F 9 (by rintro ⟨a, b⟩; omega)).1 1
      refine vc_X10_matches_25 _ p g s hd (fun _ _ _ => False) (fun _ _ _ q => q.elim) ⟨fun c => ?_, fun c => by omega⟩
      have := k g s F
      unfold rMatches at this
      rw [if_pos hf] at this
      rw [show p = (dv h 8).1.length by omega]
      exact this
    | succ n ih =>
      intro p g s F P hn hf
      have e9 : gI g 9 1 = gI h 9 1 := (F 9 (by rintro ⟨a, b⟩; omega)).1 1
      have ed : dv g 8 = dv h 8 := dv8_pI F
      have bd := cntB_bd (fun p => pFitsB (pf (tX h)).2 (dv h 8).1 p) p
      refine vc_X10_matches_25 _ p g s hd (fun y1 y2 g' => y1 = cntB (fun p => pFitsB (pf (tX h)).2 (dv h 8).1 p) (p + 1) ∧ y2 = ((p + 1 : Nat) : Int) ∧ g' = g) ?_ ⟨fun c => by omega, fun c => sp_X7_fits (by omega) s (dOk8_pI F h8) P (by omega) (by omega) (fun t => qI_i ⟨s, fun z => by omega, fun _ => ⟨by omega, fun x ex => ⟨by omega, fun x2 ex2 _ => ⟨?_, by omega, rfl⟩⟩⟩⟩) (fun t => qI_i ⟨s, fun _ => ⟨by omega, fun x ex _ => ⟨?_, by omega, rfl⟩⟩, fun z => absurd rfl z⟩)⟩
      · rintro _ _ _ ⟨q0, q1, q2⟩
        rw [q0, q1, q2]
        exact ih (p + 1) g s F P (by omega) hf
      · rw [ed, pFits_iff] at t
        rw [cntB, if_pos t]; exact ex
      · rw [ed, pFits_iff] at t
        rw [cntB, if_neg t]; omega
  refine vc_X10_matches_0 h hS hd (fun y1 y2 g' => y1 = 0 ∧ y2 = ((0 : Nat) : Int) ∧ zSh g' ∧ zF3 pI h g' ∧ pP g' (pf (tX h)).2 ∧ (pf (tX h)).1 = -1009) ?_ (sp_X7_faultOf (by omega) hS hz (fun g s F P => qI_i ⟨s, fun c1 _ => ⟨rfl, rfl, s, F, P, c1⟩, fun c1 => ?_⟩))
  · rintro _ _ g' ⟨q0, q1, q4, q5, q6, q7⟩
    rw [q0, q1]
    exact loop (dv h 8).1.length 0 g' q4 q5 q6 (by omega) q7
  · have := k g s F
    unfold rMatches at this
    rw [if_neg c1] at this
    exact this
end XS
