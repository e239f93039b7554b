/-! the layout: a pure machine -/
/-- fields, broken, position, steps, worth, begins, ends -/
abbrev zLyS : Type := List (List Int × List Int) × (Int × (Int × (Int × ((Nat → Int) × ((Nat → Int) × (Nat → Int))))))
/-- open structures, the innermost first: item, count, turn -/
abbrev zLyK : Type := List (Nat × (Int × Int))
abbrev zLyC : Type := Nat × (zLyK × zLyS)
def lF (s : zLyS) : List (List Int × List Int) := s.1
def lB (s : zLyS) : Int := s.2.1
def lP (s : zLyS) : Int := s.2.2.1
def lS (s : zLyS) : Int := s.2.2.2.1
def lW (s : zLyS) : Nat → Int := s.2.2.2.2.1
def lG (s : zLyS) : Nat → Int := s.2.2.2.2.2.1
def lE (s : zLyS) : Nat → Int := s.2.2.2.2.2.2
def lMk (F : List (List Int × List Int)) (b p n : Int) (W g e : Nat → Int) : zLyS := (F, (b, (p, (n, (W, (g, e))))))
def upF (f : Nat → Int) (i : Nat) (v : Int) : Nat → Int := fun j => if j = i then v else f j
/-- part f of item i of a template: kind 0, name 1, size 2, little 3, parent 4, end 5, condition 6, its value 7, counted 8, counter 9, number 10, first 11, last 12 -/
def ti (T : List (List Int)) (i f : Nat) : Int := (T.getD i []).getD f 0
def tCnt (T : List (List Int)) (W : Nat → Int) (i : Nat) : Int := if ti T i 8 = 0 then 1 else if ti T i 9 = -1 then ti T i 10 else clamp (W (ti T i 9).toNat)
def kPath (T : List (List Int)) (K : zLyK) : List Int := K.reverse.map (fun e => 1000 * e.2.2 + ti T e.1 1)
def lFd (T : List (List Int)) (K : zLyK) (i : Nat) (rep : Int) (s : zLyS) : List Int × List Int :=
  ([lP s, ti T i 2, ti T i 0, ti T i 3, if ti T i 11 = -1 then -1009 else lG s (ti T i 11).toNat, if ti T i 12 = -1 then -1009 else lE s (ti T i 12).toNat, (K.length : Int) + 1], kPath T K ++ [1000 * rep + ti T i 1])
def lSetB (s : zLyS) (b : Int) : zLyS := lMk (lF s) b (lP s) (lS s) (lW s) (lG s) (lE s)
def lSetP (s : zLyS) (p : Int) : zLyS := lMk (lF s) (lB s) p (lS s) (lW s) (lG s) (lE s)
def lSetE (s : zLyS) (i : Nat) : zLyS := lMk (lF s) (lB s) (lP s) (lS s) (lW s) (lG s) (upF (lE s) i (lP s))
def lSetW (s : zLyS) (i : Nat) (v : Int) : zLyS := lMk (lF s) (lB s) (lP s) (lS s) (upF (lW s) i v) (lG s) (lE s)
/-- a step is made, or there are too many -/
def lTick (s : zLyS) : zLyS := if 400 ≤ lS s then lSetB s 3 else lMk (lF s) (lB s) (lP s) (lS s + 1) (lW s) (lG s) (lE s)
def lOne (T : List (List Int)) (bs : List Int) (K : zLyK) (i : Nat) (rep : Int) (s : zLyS) : zLyS :=
  if (lF s).length = 60 then lSetB s 2 else if (bs.length : Int) < lP s + ti T i 2 then lSetB s 1
  else lMk (lF s ++ [lFd T K i rep s]) (lB s) (lP s + ti T i 2) (lS s) (lW s) (lG s) (lE s)
def lRep (T : List (List Int)) (bs : List Int) (K : zLyK) (i : Nat) : Nat → Int → zLyS → zLyS
  | 0, _, s => s
  | n + 1, r, s => if lB s = 0 then lRep T bs K i n (r + 1) (lOne T bs K i r s) else s
/-- the value of a laid field -/
def fdV (bs : List Int) (fd : List Int × List Int) : Int := fVal (tg bs) (fd.1.getD 0 0) (fd.1.getD 1 0) (fd.1.getD 2 0) (fd.1.getD 3 0)
def tPl (T : List (List Int)) (i : Nat) : Prop := (ti T i 0 = 0 ∨ ti T i 0 = 1) ∧ ti T i 8 = 0
def lAll (T : List (List Int)) (bs : List Int) (K : zLyK) (i : Nat) (s : zLyS) : zLyS :=
  if lB (lRep T bs K i (tCnt T (lW s) i).toNat 0 s) = 0 ∧ (ti T i 0 = 0 ∨ ti T i 0 = 1) ∧ ti T i 8 = 0
  then lSetW (lRep T bs K i (tCnt T (lW s) i).toNat 0 s) i (fdV bs ((lF (lRep T bs K i (tCnt T (lW s) i).toNat 0 s)).getLastD ([], [])))
  else lRep T bs K i (tCnt T (lW s) i).toNat 0 s
/-- an item is come to: its start, its end and its value are set -/
def lCome (i : Nat) (s : zLyS) : zLyS := lMk (lF s) (lB s) (lP s) (lS s) (upF (lW s) i 0) (upF (lG s) i (lP s)) (upF (lE s) i (lP s))
def lGo (T : List (List Int)) (bs : List Int) (off : Int) (i : Nat) (K : zLyK) (s : zLyS) : zLyC :=
  if ti T i 6 ≠ -1 ∧ lW s (ti T i 6).toNat ≠ ti T i 7 then ((ti T i 5).toNat, (K, s))
  else if ti T i 0 = 5 then
    (if tCnt T (lW s) i ≤ 0 then ((ti T i 5).toNat, (K, s)) else (i + 1, ((i, (tCnt T (lW s) i, 0)) :: K, lTick s)))
  else if ti T i 0 = 6 then ((ti T i 5).toNat, (K, lSetE (lSetP s (lP s + ti T i 10)) i))
  else if ti T i 0 = 7 then ((ti T i 5).toNat, (K, lSetE (lSetP s (alP (lP s) off (ti T i 10))) i))
  else ((ti T i 5).toNat, (K, lSetE (lAll T bs K i s) i))
def lPass (T : List (List Int)) (bs : List Int) (off : Int) (i : Nat) (K : zLyK) (s : zLyS) : zLyC :=
  if 400 ≤ lS s then (i, (K, lSetB s 3)) else lGo T bs off i K (lCome i (lTick s))
def lStep (T : List (List Int)) (bs : List Int) (off : Int) : zLyC → zLyC
  | (i, ([], s)) => if lB s ≠ 0 ∨ T.length ≤ i then (i, ([], s)) else lPass T bs off i [] s
  | (i, ((t, (c, u)) :: K, s)) => if lB s ≠ 0 then (i, ((t, (c, u)) :: K, s))
    else if (i : Int) = ti T t 5 then (if u + 1 < c then (t + 1, ((t, (c, u + 1)) :: K, lTick (lSetE s t))) else (i, (K, lSetE s t)))
    else lPass T bs off i ((t, (c, u)) :: K) s
def lHalt (T : List (List Int)) (c : zLyC) : Prop := lB c.2.2 ≠ 0 ∨ (c.2.1 = [] ∧ T.length ≤ c.1)
def lIt (T : List (List Int)) (bs : List Int) (off : Int) : Nat → zLyC → zLyC
  | 0, c => c
  | n + 1, c => lIt T bs off n (lStep T bs off c)
def lStart (off : Int) : zLyS := lMk [] 0 off 0 (fun _ => 0) (fun _ => 0) (fun _ => 0)
/-- what is seen of a layout: fields, why it broke off, where it ended -/
def lVis (s : zLyS) : List (List Int × List Int) × (Int × Int) := (lF s, (lB s, lP s))
def layT (T : List (List Int)) (bs : List Int) (off : Int) : List (List Int × List Int) × (Int × Int) := lVis (lIt T bs off 2006 (0, ([], lStart off))).2.2
section LAY
variable {T : List (List Int)} {bs : List Int} {off : Int}
theorem lStep_halt {c : zLyC} (h : lHalt T c) : lStep T bs off c = c := by
  obtain ⟨i, K, s⟩ := c
  cases K with
  | nil =>
    rw [lStep, if_pos]
    rcases h with q | q
    · exact Or.inl q
    · exact Or.inr q.2
  | cons e K =>
    obtain ⟨t, c, u⟩ := e
    rw [lStep, if_pos]
    rcases h with q | q
    · exact q
    · exact absurd q.1 (by simp)
theorem lIt_halt {c : zLyC} (h : lHalt T c) : ∀ n, lIt T bs off n c = c
  | 0 => rfl
  | n + 1 => by rw [lIt, lStep_halt h, lIt_halt h n]
theorem lIt_add : ∀ (n m : Nat) (c : zLyC), lIt T bs off (n + m) c = lIt T bs off m (lIt T bs off n c)
  | 0, m, c => by rw [Nat.zero_add]; rfl
  | n + 1, m, c => by rw [show n + 1 + m = (n + m) + 1 by omega, lIt, lIt, lIt_add n m]
/-- two ends that are come to are the same -/
theorem lIt_det {c : zLyC} {n m : Nat} (h1 : lHalt T (lIt T bs off n c)) (h2 : lHalt T (lIt T bs off m c)) : lIt T bs off n c = lIt T bs off m c := by
  rcases Nat.le_total n m with q | q
  · rw [show m = n + (m - n) by omega, lIt_add, lIt_halt h1]
  · rw [show n = m + (n - m) by omega, lIt_add, lIt_halt h2]
end LAY
/-! it comes to an end -/
def lMu (c : zLyC) : Nat := 5 * (401 - (lS c.2.2).toNat) + c.2.1.length
theorem lS_mk {F : List (List Int × List Int)} {b p n : Int} {W g e : Nat → Int} : lS (lMk F b p n W g e) = n := rfl
theorem lB_mk {F : List (List Int × List Int)} {b p n : Int} {W g e : Nat → Int} : lB (lMk F b p n W g e) = b := rfl
theorem lP_mk {F : List (List Int × List Int)} {b p n : Int} {W g e : Nat → Int} : lP (lMk F b p n W g e) = p := rfl
theorem lF_mk {F : List (List Int × List Int)} {b p n : Int} {W g e : Nat → Int} : lF (lMk F b p n W g e) = F := rfl
theorem lTick_cases (s : zLyS) : (400 ≤ lS s ∧ lTick s = lSetB s 3) ∨ (lS s < 400 ∧ lS (lTick s) = lS s + 1 ∧ lB (lTick s) = lB s) := by
  unfold lTick
  by_cases q : 400 ≤ lS s
  · rw [if_pos q]; exact Or.inl ⟨q, rfl⟩
  · rw [if_neg q]; exact Or.inr ⟨by omega, rfl, rfl⟩
section LAY2
variable {T : List (List Int)} {bs : List Int} {off : Int}
theorem lOne_S {K : zLyK} {i : Nat} {r : Int} {s : zLyS} : lS (lOne T bs K i r s) = lS s := by
  unfold lOne
  split
  · rfl
  · split <;> rfl
theorem lRep_S {K : zLyK} {i : Nat} : ∀ (n : Nat) (r : Int) (s : zLyS), lS (lRep T bs K i n r s) = lS s
  | 0, _, _ => rfl
  | n + 1, r, s => by
    rw [lRep]
    split
    · rw [lRep_S n, lOne_S]
    · rfl
theorem lAll_S {K : zLyK} {i : Nat} {s : zLyS} : lS (lAll T bs K i s) = lS s := by
  unfold lAll
  split
  · show lS (lRep T bs K i _ 0 s) = _
    rw [lRep_S]
  · rw [lRep_S]
theorem lGo_mu {i : Nat} {K : zLyK} {s : zLyS} (h0 : 0 ≤ lS s) (h1 : lS s ≤ 400) : lB (lGo T bs off i K s).2.2 ≠ 0 ∨ (0 ≤ lS (lGo T bs off i K s).2.2 ∧ lS (lGo T bs off i K s).2.2 ≤ 400 ∧ lMu (lGo T bs off i K s) ≤ 5 * (401 - (lS s).toNat) + K.length) := by
  unfold lGo
  split
  · exact Or.inr ⟨h0, h1, Nat.le_refl _⟩
  · split
    · split
      · exact Or.inr ⟨h0, h1, Nat.le_refl _⟩
      · rcases lTick_cases s with ⟨q1, q2⟩ | ⟨q1, q2, q3⟩
        · left
          show lB (lTick s) ≠ 0
          rw [q2]
          show (3 : Int) ≠ 0
          omega
        · right
          show 0 ≤ lS (lTick s) ∧ lS (lTick s) ≤ 400 ∧ 5 * (401 - (lS (lTick s)).toNat) + (K.length + 1) ≤ _
          rw [q2]
          omega
    · split
      · exact Or.inr ⟨h0, h1, Nat.le_refl _⟩
      · split
        · exact Or.inr ⟨h0, h1, Nat.le_refl _⟩
        · right
          show 0 ≤ lS (lAll T bs K i s) ∧ lS (lAll T bs K i s) ≤ 400 ∧ 5 * (401 - (lS (lAll T bs K i s)).toNat) + K.length ≤ _
          rw [lAll_S]
          omega
theorem lPass_mu {i : Nat} {K : zLyK} {s : zLyS} (h0 : 0 ≤ lS s) (h1 : lS s ≤ 400) : lB (lPass T bs off i K s).2.2 ≠ 0 ∨ (0 ≤ lS (lPass T bs off i K s).2.2 ∧ lS (lPass T bs off i K s).2.2 ≤ 400 ∧ lMu (lPass T bs off i K s) < 5 * (401 - (lS s).toNat) + K.length) := by
  unfold lPass
  split
  · left
    show (3 : Int) ≠ 0
    omega
  · rename_i q
    rcases lTick_cases s with ⟨q1, q2⟩ | ⟨q1, q2, q3⟩
    · omega
    · have e : lS (lCome i (lTick s)) = lS s + 1 := q2
      rcases lGo_mu (T := T) (bs := bs) (off := off) (i := i) (K := K) (s := lCome i (lTick s)) (by omega) (by omega) with w | ⟨w1, w2, w3⟩
      · exact Or.inl w
      · rw [e] at w3
        exact Or.inr ⟨w1, w2, by omega⟩
theorem lStep_mu {c : zLyC} (h0 : 0 ≤ lS c.2.2) (h1 : lS c.2.2 ≤ 400) (hh : ¬ lHalt T c) : lB (lStep T bs off c).2.2 ≠ 0 ∨ (0 ≤ lS (lStep T bs off c).2.2 ∧ lS (lStep T bs off c).2.2 ≤ 400 ∧ lMu (lStep T bs off c) < lMu c) := by
  obtain ⟨i, K, s⟩ := c
  cases K with
  | nil =>
    rw [lStep, if_neg (fun q => hh (by
      rcases q with q | q
      · exact Or.inl q
      · exact Or.inr ⟨rfl, q⟩))]
    exact lPass_mu h0 h1
  | cons e K =>
    obtain ⟨t, c, u⟩ := e
    rw [lStep, if_neg (fun q => hh (Or.inl q))]
    split
    · split
      · rcases lTick_cases (lSetE s t) with ⟨q1, q2⟩ | ⟨q1, q2, q3⟩
        · left
          show lB (lTick (lSetE s t)) ≠ 0
          rw [q2]
          show (3 : Int) ≠ 0
          omega
        · right
          have e : lS (lSetE s t) = lS s := rfl
          have h0' : 0 ≤ lS s := h0
          have h1' : lS s ≤ 400 := h1
          show 0 ≤ lS (lTick (lSetE s t)) ∧ lS (lTick (lSetE s t)) ≤ 400 ∧ 5 * (401 - (lS (lTick (lSetE s t))).toNat) + (K.length + 1) < 5 * (401 - (lS s).toNat) + (K.length + 1)
          rw [q2, e]
          omega
      · right
        have h0' : 0 ≤ lS s := h0
        have h1' : lS s ≤ 400 := h1
        show 0 ≤ lS s ∧ lS s ≤ 400 ∧ 5 * (401 - (lS s).toNat) + K.length < 5 * (401 - (lS s).toNat) + (K.length + 1)
        omega
    · exact lPass_mu h0 h1
theorem lIt_ends : ∀ (n : Nat) (c : zLyC), 0 ≤ lS c.2.2 → lS c.2.2 ≤ 400 → lMu c < n → lHalt T (lIt T bs off n c)
  | 0, _, _, _, h => absurd h (by omega)
  | n + 1, c, h0, h1, h => by
    by_cases q : lHalt T c
    · rw [lIt_halt q]; exact q
    · rw [lIt]
      rcases lStep_mu (bs := bs) (off := off) h0 h1 q with w | ⟨w1, w2, w3⟩
      · have hl : lHalt T (lStep T bs off c) := Or.inl w
        rw [lIt_halt hl]; exact hl
      · exact lIt_ends n _ w1 w2 (by omega)
/-- whoever comes to an end from the start has the layout -/
theorem layT_of {n : Nat} (h : lHalt T (lIt T bs off n (0, ([], lStart off)))) : lVis (lIt T bs off n (0, ([], lStart off))).2.2 = layT T bs off := by
  unfold layT
  rw [lIt_det h (lIt_ends 2006 _ (by show (0 : Int) ≤ 0; omega) (by show (0 : Int) ≤ 400; omega) (by show 5 * (401 - (0 : Int).toNat) + 0 < 2006; omega))]
end LAY2
