/-! templates as values -/
def mRow (h : zHp) (t i : Nat) : List Int :=
  [if mi h t i 0 = 0 then mi h t i 5 else if mi h t i 0 = 1 then 5 else if mi h t i 0 = 2 then mi h t i 10 else if mi h t i 0 = 3 then 6 else 7,
   if mi h t i 0 ≤ 2 then mi h t i 1 else -1,
   if mi h t i 0 = 0 ∨ mi h t i 0 = 2 then mi h t i 4 else 0,
   if mi h t i 0 = 0 then mi h t i 6 else 0,
   mi h t i 13, mi h t i 9, mi h t i 2, mi h t i 3,
   if mi h t i 7 = 0 then 0 else 1,
   if mi h t i 7 = 2 then mi h t i 8 else -1,
   if mi h t i 0 = 3 ∨ mi h t i 0 = 4 then mi h t i 4 else if mi h t i 7 = 1 then mi h t i 8 else 0,
   if mi h t i 0 = 2 then mi h t i 11 else -1,
   if mi h t i 0 = 2 then mi h t i 12 else -1]
def mT (h : zHp) (t : Nat) : List (List Int) := (List.range (gI h 352 t).toNat).map (mRow h t)
/-- a template of the class, by its cell -/
def xT (h : zHp) (a : Nat) : List (List Int) := (List.range (gI h a 1).toNat).map (fun i => (List.range 13).map (fun f => gI h (a + 2 + i) f))
theorem mT_len {h : zHp} {t : Nat} : (mT h t).length = (gI h 352 t).toNat := by simp [mT]
theorem xT_len {h : zHp} {a : Nat} : (xT h a).length = (gI h a 1).toNat := by simp [xT]
theorem ti_mT {h : zHp} {t i f : Nat} (hi : (i : Int) < gI h 352 t) : ti (mT h t) i f = (mRow h t i).getD f 0 := by
  unfold ti mT
  rw [List.getD_eq_getElem?_getD (l := List.map (mRow h t) _), List.getElem?_map, List.getElem?_range (by omega)]
  rfl
theorem ti_xT {h : zHp} {a i f : Nat} (hi : (i : Int) < gI h a 1) (hf : f < 13) : ti (xT h a) i f = gI h (a + 2 + i) f := by
  unfold ti xT
  rw [List.getD_eq_getElem?_getD (l := List.map _ _) (i := i), List.getElem?_map, List.getElem?_range (by omega)]
  show ((List.range 13).map (fun f => gI h (a + 2 + i) f)).getD f 0 = _
  rw [List.getD_eq_getElem?_getD, List.getElem?_map, List.getElem?_range hf]
  rfl
/-- the fields of the model as values -/
def mFl (h : zHp) (j : Nat) : List Int × List Int := ([gI h 354 j, gI h 355 j, gI h 356 j, gI h 357 j, gI h 358 j, gI h 359 j, gI h 360 j], (List.range (gI h 360 j).toNat).map (fun k => gI h 361 (4 * j + k)))
def mFs (h : zHp) : List (List Int × List Int) := (List.range (gI h 343 31).toNat).map (mFl h)
/-- the fields of the class as values -/
def xFl (h : zHp) (j : Nat) : List Int × List Int := ([gI h (217 + 2 * j) 0, gI h (217 + 2 * j) 1, gI h (217 + 2 * j) 2, gI h (217 + 2 * j) 3, gI h (217 + 2 * j) 4, gI h (217 + 2 * j) 5, gI h (217 + 2 * j) 6], (List.range (gI h (217 + 2 * j) 6).toNat).map (fun k => gI h (217 + 2 * j + 1) k))
theorem mFs_len {h : zHp} : (mFs h).length = (gI h 343 31).toNat := by simp [mFs]
theorem mFs_push {h h' : zHp} {n : Nat} {fd : List Int × List Int} (e : gI h 343 31 = (n : Int)) (e' : gI h' 343 31 = (n : Int) + 1) (hk : ∀ j : Nat, j < n → mFl h' j = mFl h j) (hn : mFl h' n = fd) : mFs h' = mFs h ++ [fd] := by
  unfold mFs
  rw [e, e', show ((n : Int) + 1).toNat = n + 1 by omega, show (n : Int).toNat = n by omega, List.range_succ, List.map_append]
  congr 1
  · exact List.map_congr_left (fun j hj => hk j (List.mem_range.mp hj))
  · show [mFl h' n] = [fd]
    rw [hn]
theorem mRow_0 {h : zHp} {t i : Nat} : (mRow h t i).getD 0 0 = if mi h t i 0 = 0 then mi h t i 5 else if mi h t i 0 = 1 then 5 else if mi h t i 0 = 2 then mi h t i 10 else if mi h t i 0 = 3 then 6 else 7 := rfl
theorem mRow_1 {h : zHp} {t i : Nat} : (mRow h t i).getD 1 0 = if mi h t i 0 ≤ 2 then mi h t i 1 else -1 := rfl
theorem mRow_2 {h : zHp} {t i : Nat} : (mRow h t i).getD 2 0 = if mi h t i 0 = 0 ∨ mi h t i 0 = 2 then mi h t i 4 else 0 := rfl
theorem mRow_3 {h : zHp} {t i : Nat} : (mRow h t i).getD 3 0 = if mi h t i 0 = 0 then mi h t i 6 else 0 := rfl
theorem mRow_4 {h : zHp} {t i : Nat} : (mRow h t i).getD 4 0 = mi h t i 13 := rfl
theorem mRow_5 {h : zHp} {t i : Nat} : (mRow h t i).getD 5 0 = mi h t i 9 := rfl
theorem mRow_6 {h : zHp} {t i : Nat} : (mRow h t i).getD 6 0 = mi h t i 2 := rfl
theorem mRow_7 {h : zHp} {t i : Nat} : (mRow h t i).getD 7 0 = mi h t i 3 := rfl
theorem mRow_8 {h : zHp} {t i : Nat} : (mRow h t i).getD 8 0 = if mi h t i 7 = 0 then 0 else 1 := rfl
theorem mRow_9 {h : zHp} {t i : Nat} : (mRow h t i).getD 9 0 = if mi h t i 7 = 2 then mi h t i 8 else -1 := rfl
theorem mRow_10 {h : zHp} {t i : Nat} : (mRow h t i).getD 10 0 = if mi h t i 0 = 3 ∨ mi h t i 0 = 4 then mi h t i 4 else if mi h t i 7 = 1 then mi h t i 8 else 0 := rfl
theorem mRow_11 {h : zHp} {t i : Nat} : (mRow h t i).getD 11 0 = if mi h t i 0 = 2 then mi h t i 11 else -1 := rfl
theorem mRow_12 {h : zHp} {t i : Nat} : (mRow h t i).getD 12 0 = if mi h t i 0 = 2 then mi h t i 12 else -1 := rfl
