/-! reading a template: pure part -/
def isNm (c : Int) : Prop := 97 ≤ c ∧ c ≤ 122
def isDg (c : Int) : Prop := 48 ≤ c ∧ c ≤ 57
def isNmB (c : Int) : Bool := decide (97 ≤ c) && decide (c ≤ 122)
def isDgB (c : Int) : Bool := decide (48 ≤ c) && decide (c ≤ 57)
theorem isNmB_iff {c : Int} : isNmB c = true ↔ isNm c := by simp [isNmB, isNm]
theorem isDgB_iff {c : Int} : isDgB c = true ↔ isDg c := by simp [isDgB, isDg]
/-- the item of a block, before item n, with a name; none: -1 -/
def tSb (T : List (List Int)) (q : Int) : Nat → Int → Int
  | 0, _ => -1
  | k + 1, c => if ti T k 4 = q ∧ ti T k 1 = c then (k : Int) else tSb T q k c
/-- the item that a name refers to -/
def tLk (T : List (List Int)) : Nat → Int → Int → Int
  | 0, _, _ => -1
  | k + 1, q, c => if (k : Int) = q then tLk T k (ti T k 4) c else if ti T k 4 = q ∧ ti T k 1 = c then (k : Int) else tLk T k q c
def tPlB (T : List (List Int)) (i : Nat) : Bool := (decide (ti T i 0 = 0) || decide (ti T i 0 = 1)) && decide (ti T i 8 = 0)
theorem tPlB_iff {T : List (List Int)} {i : Nat} : tPlB T i = true ↔ tPl T i := by simp [tPlB, tPl]
def nSc (t : List Int) : Nat → Nat → Int → Nat × Int
  | 0, e, v => (e, v)
  | n + 1, e, v => if isDgB (tg t e) = true then nSc t n (e + 1) (10 * v + tg t e - 48) else (e, v)
def pSg (t : List Int) (c : Int) (p : Nat) : Nat ⊕ Nat := if tg t p = c then .inr (bl t (p + 1)) else .inl p
def pNu (t : List Int) (p : Nat) : Nat ⊕ (Nat × Int) := if isDgB (tg t p) = true then .inr (bl t (nSc t 3 p 0).1, (nSc t 3 p 0).2) else .inl p
def pRf (t : List Int) (T : List (List Int)) (q : Int) (i p : Nat) : Nat ⊕ (Nat × Int) :=
  if isNmB (tg t p) = true ∧ 0 ≤ tLk T i q (tg t p) ∧ tPlB T (tLk T i q (tg t p)).toNat = true then .inr (bl t (p + 1), tLk T i q (tg t p)) else .inl p
def pSb (t : List Int) (T : List (List Int)) (q : Int) (i : Nat) (least : Int) (p : Nat) : Nat ⊕ (Nat × Int) :=
  if isNmB (tg t p) = true ∧ 0 ≤ tSb T q i (tg t p) ∧ least ≤ tSb T q i (tg t p) then .inr (bl t (p + 1), tSb T q i (tg t p)) else .inl p
def pB {α β : Type} (x : Nat ⊕ α) (f : α → Nat ⊕ β) : Nat ⊕ β := match x with
  | .inl e => .inl e
  | .inr a => f a
/-- the count behind a type: where it ends, counted, counter, number -/
def pCt (t : List Int) (T : List (List Int)) (q : Int) (i p : Nat) : Nat ⊕ (Nat × (Int × (Int × Int))) :=
  if tg t p = 42 then
    (if isNmB (tg t (bl t (p + 1))) = true then pB (pRf t T q i (bl t (p + 1))) (fun x => .inr (x.1, (1, (x.2, 0))))
     else pB (pNu t (bl t (p + 1))) (fun x => .inr (x.1, (1, (-1, x.2)))))
  else .inr (p, (0, (-1, 0)))
/-- size and byte order of an integer whose letter stands at p -/
def pInt (t : List Int) (p : Nat) : Nat ⊕ (Nat × (Int × Int)) :=
  if tg t (bl t (p + 1)) = 49 ∨ tg t (bl t (p + 1)) = 50 ∨ tg t (bl t (p + 1)) = 52 then
    (if tg t (bl t (bl t (p + 1) + 1)) = 60 then .inr (bl t (bl t (bl t (p + 1) + 1) + 1), (tg t (bl t (p + 1)) - 48, 1))
     else .inr (bl t (bl t (p + 1) + 1), (tg t (bl t (p + 1)) - 48, 0)))
  else .inl (bl t (p + 1))
/-- the range of a check whose letter stands at p -/
def pChk (t : List Int) (T : List (List Int)) (q : Int) (i p : Nat) : Nat ⊕ (Nat × (Int × Int)) :=
  pB (pSg t 40 (bl t (p + 1))) (fun p1 => pB (pSb t T q i 0 p1) (fun x => pB (pSg t 44 x.1) (fun p3 => pB (pSb t T q i x.2 p3) (fun y => pB (pSg t 41 y.1) (fun p5 => .inr (p5, (x.2, y.2)))))))
def rw13 (kind name size little parent fin cond cval counted counter number first last : Int) : List Int := [kind, name, size, little, parent, fin, cond, cval, counted, counter, number, first, last]
/-- what stands behind the colon: where it ends, the item, whether it is over -/
def pTy (t : List Int) (T : List (List Int)) (q : Int) (dep i p : Nat) (name cond cval : Int) : Nat ⊕ (Nat × (List Int × Bool)) :=
  if tg t p = 117 ∨ tg t p = 105 then
    pB (pInt t p) (fun x => pB (pCt t T q i x.1) (fun y => .inr (y.1, (rw13 (if tg t p = 105 then 1 else 0) name x.2.1 x.2.2 q ((i : Int) + 1) cond cval y.2.1 y.2.2.1 y.2.2.2 (-1) (-1), true))))
  else if tg t p = 123 then
    (if 3 ≤ dep then .inl p else .inr (bl t (p + 1), (rw13 5 name 0 0 q ((i : Int) + 1) cond cval 0 (-1) 0 (-1) (-1), false)))
  else if tg t p = 120 then pB (pChk t T q i p) (fun x => .inr (x.1, (rw13 2 name 1 0 q ((i : Int) + 1) cond cval 0 (-1) 0 x.2.1 x.2.2, true)))
  else if tg t p = 115 then pB (pChk t T q i p) (fun x => .inr (x.1, (rw13 3 name 2 0 q ((i : Int) + 1) cond cval 0 (-1) 0 x.2.1 x.2.2, true)))
  else if tg t p = 99 then pB (pChk t T q i p) (fun x => .inr (x.1, (rw13 4 name 2 0 q ((i : Int) + 1) cond cval 0 (-1) 0 x.2.1 x.2.2, true)))
  else .inl p
def pCd (t : List Int) (T : List (List Int)) (q : Int) (i p : Nat) : Nat ⊕ (Nat × (Int × Int)) :=
  if tg t p = 63 then pB (pRf t T q i (bl t (p + 1))) (fun x => pB (pSg t 61 x.1) (fun p2 => pB (pNu t p2) (fun y => .inr (y.1, (x.2, y.2)))))
  else .inr (p, (-1, 0))
def pNm (t : List Int) (T : List (List Int)) (q : Int) (i p : Nat) : Nat ⊕ Nat :=
  if isNmB (tg t p) = true ∧ tSb T q i (tg t p) < 0 then pSg t 58 (bl t (p + 1)) else .inl p
def pGap (t : List Int) (q : Int) (i p : Nat) (cond cval : Int) : Nat ⊕ (Nat × (List Int × Bool)) :=
  pB (pNu t (bl t (p + 1))) (fun x => if tg t p = 64 ∧ x.2 = 0 then .inl (bl t (p + 1)) else .inr (x.1, (rw13 (if tg t p = 64 then 7 else 6) (-1) 0 0 q ((i : Int) + 1) cond cval 0 (-1) x.2 (-1) (-1), true)))
/-- an item, up to its semicolon, or to the brace of its structure -/
def pItm (t : List Int) (T : List (List Int)) (q : Int) (dep p : Nat) : Nat ⊕ (Nat × (List Int × Bool)) :=
  if 24 ≤ T.length then .inl p
  else pB (pCd t T q T.length p) (fun x =>
    pB (if tg t x.1 = 46 ∨ tg t x.1 = 64 then pGap t q T.length x.1 x.2.1 x.2.2
        else pB (pNm t T q T.length x.1) (fun p2 => pTy t T q dep T.length p2 (tg t x.1) x.2.1 x.2.2))
      (fun y => if y.2.2 = true then pB (pSg t 59 y.1) (fun p3 => .inr (p3, y.2)) else .inr y))
/-- the end and the count of a structure are set -/
def tCl (T : List (List Int)) (i : Nat) (c : Int × (Int × Int)) : List (List Int) :=
  T.set i (rw13 (ti T i 0) (ti T i 1) (ti T i 2) (ti T i 3) (ti T i 4) (T.length : Int) (ti T i 6) (ti T i 7) c.1 c.2.1 c.2.2 (ti T i 11) (ti T i 12))
abbrev zPC : Type := Nat × (List Nat × List (List Int))
def kTop (K : List Nat) : Int := match K with
  | [] => -1
  | i :: _ => (i : Int)
def pClo (t : List Int) (T : List (List Int)) (i p : Nat) : Nat ⊕ (Nat × List (List Int)) :=
  pB (pCt t T (ti T i 4) i (bl t (p + 1))) (fun y => pB (pSg t 59 y.1) (fun p3 => .inr (p3, tCl T i y.2)))
def pStep (t : List Int) : zPC → Nat ⊕ zPC
  | (p, ([], T)) => pB (pItm t T (-1) 0 p) (fun y => if y.2.2 = true then .inr (y.1, ([], T ++ [y.2.1])) else .inr (y.1, ([T.length], T ++ [y.2.1])))
  | (p, (i :: K, T)) => if tg t p = 125 then pB (pClo t T i p) (fun y => .inr (y.1, (K, y.2)))
    else pB (pItm t T (i : Int) (K.length + 1) p) (fun y => if y.2.2 = true then .inr (y.1, (i :: K, T ++ [y.2.1])) else .inr (y.1, (T.length :: i :: K, T ++ [y.2.1])))
def pEnd (t : List Int) (c : zPC) : Prop := c.2.1 = [] ∧ t.length ≤ c.1
/-- the way from one place to another -/
def pW (t : List Int) : Nat → zPC → zPC → Prop
  | 0, c, c' => c = c'
  | n + 1, c, c' => ¬ pEnd t c ∧ ∃ c1, pStep t c = .inr c1 ∧ pW t n c1 c'
/-- the text has the fault f -/
def pFl (t : List Int) (c : zPC) (f : Nat) : Prop := ∃ n c', pW t n c c' ∧ ¬ pEnd t c' ∧ pStep t c' = .inl f
/-- the text is the template T -/
def pDn (t : List Int) (c : zPC) (T : List (List Int)) : Prop := ∃ n c', pW t n c c' ∧ pEnd t c' ∧ c'.2.2 = T
section PARSE
variable {t : List Int}
theorem pW_tr : ∀ {n m : Nat} {c c1 c2 : zPC}, pW t n c c1 → pW t m c1 c2 → pW t (n + m) c c2
  | 0, m, c, c1, c2, h1, h2 => by
    have e : c = c1 := h1
    rw [Nat.zero_add, e]; exact h2
  | n + 1, m, c, c1, c2, h1, h2 => by
    obtain ⟨a, x, b, d⟩ := h1
    rw [show n + 1 + m = (n + m) + 1 by omega]
    exact ⟨a, x, b, pW_tr d h2⟩
theorem pW_det : ∀ {n m : Nat} {c c1 c2 : zPC}, pW t n c c1 → pW t m c c2 → (∃ k, pW t k c1 c2) ∨ ∃ k, pW t k c2 c1
  | 0, m, c, c1, c2, h1, h2 => by
    have e : c = c1 := h1
    rw [← e]; exact Or.inl ⟨m, h2⟩
  | n + 1, 0, c, c1, c2, h1, h2 => by
    have e : c = c2 := h2
    rw [← e]; exact Or.inr ⟨n + 1, h1⟩
  | n + 1, m + 1, c, c1, c2, h1, h2 => by
    obtain ⟨a, x, b, d⟩ := h1
    obtain ⟨a', x', b', d'⟩ := h2
    rw [b] at b'
    have e := Sum.inr.inj b'
    rw [← e] at d'
    exact pW_det d d'
theorem pW_stop {k : Nat} {c c' : zPC} (h : pW t k c c') (hs : pEnd t c ∨ ∃ f, pStep t c = .inl f) : c = c' := by
  cases k with
  | zero => exact h
  | succ k =>
    obtain ⟨a, x, b, d⟩ := h
    rcases hs with q | ⟨f, q⟩
    · exact absurd q a
    · rw [q] at b; cases b
/-- two readers find the same -/
theorem pFl_det {c : zPC} {f f' : Nat} (h1 : pFl t c f) (h2 : pFl t c f') : f = f' := by
  obtain ⟨n, c1, w1, e1, s1⟩ := h1
  obtain ⟨m, c2, w2, e2, s2⟩ := h2
  have e : c1 = c2 := by
    rcases pW_det w1 w2 with ⟨k, q⟩ | ⟨k, q⟩
    · exact pW_stop q (Or.inr ⟨f, s1⟩)
    · exact (pW_stop q (Or.inr ⟨f', s2⟩)).symm
  rw [e, s2] at s1
  exact (Sum.inl.inj s1).symm
theorem pDn_det {c : zPC} {T T' : List (List Int)} (h1 : pDn t c T) (h2 : pDn t c T') : T = T' := by
  obtain ⟨n, c1, w1, e1, s1⟩ := h1
  obtain ⟨m, c2, w2, e2, s2⟩ := h2
  have e : c1 = c2 := by
    rcases pW_det w1 w2 with ⟨k, q⟩ | ⟨k, q⟩
    · exact pW_stop q (Or.inl e1)
    · exact (pW_stop q (Or.inl e2)).symm
  rw [← s1, ← s2, e]
theorem pFD_det {c : zPC} {T : List (List Int)} {f : Nat} (h1 : pFl t c f) (h2 : pDn t c T) : False := by
  obtain ⟨n, c1, w1, e1, s1⟩ := h1
  obtain ⟨m, c2, w2, e2, s2⟩ := h2
  have e : c1 = c2 := by
    rcases pW_det w1 w2 with ⟨k, q⟩ | ⟨k, q⟩
    · exact pW_stop q (Or.inr ⟨f, s1⟩)
    · exact (pW_stop q (Or.inl e2)).symm
  rw [e] at e1
  exact e1 e2
theorem pW_1 {c c1 : zPC} (h : ¬ pEnd t c) (s : pStep t c = .inr c1) : pW t 1 c c1 := ⟨h, c1, s, rfl⟩
theorem pFl_of {c c' : zPC} {f n : Nat} (w : pW t n c c') (h : pFl t c' f) : pFl t c f := by
  obtain ⟨m, c2, w2, e2, s2⟩ := h
  exact ⟨n + m, c2, pW_tr w w2, e2, s2⟩
theorem pFl_0 {c : zPC} {f : Nat} (h : ¬ pEnd t c) (s : pStep t c = .inl f) : pFl t c f := ⟨0, c, rfl, h, s⟩
end PARSE
