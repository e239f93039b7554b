/-! the heap of the model against the state of the pure machine -/
/-- V: the items that have been come to -/
def mRl (h : zHp) (t : Nat) (s : zLyS) (V : Nat → Prop) : Prop :=
  lF s = mFs h ∧ lB s = gI h 343 32 ∧ lP s = gI h 343 33 ∧ lS s = gI h 343 34 ∧ (∀ j, V j → lG s j = gI h 363 j ∧ lE s j = gI h 364 j) ∧ (∀ j, V j → tPl (mT h t) j → lW s j = gL h 362 j)
/-- the numbers of the layout are within their bounds -/
def mBd (h : zHp) (dp : Nat) : Prop := (∃ n : Nat, gI h 343 31 = (n : Int) ∧ n ≤ 60 ∧ ∀ j : Nat, j < n → gI h 360 j ≤ 4) ∧ gI h 343 41 = (dp : Int) ∧ dp < 4 ∧ 0 ≤ gI h 343 33 ∧ 0 ≤ gI h 343 34 ∧ gI h 343 34 ≤ 400 ∧ gI h 343 33 ≤ 200 + 999 * gI h 343 34
theorem mRl_vis {h : zHp} {t : Nat} {s : zLyS} {V : Nat → Prop} (r : mRl h t s V) : lVis s = (mFs h, (gI h 343 32, gI h 343 33)) := by
  obtain ⟨r1, r2, r3, _⟩ := r
  unfold lVis
  rw [r1, r2, r3]
theorem mRl_mono {h : zHp} {t : Nat} {s : zLyS} {V V' : Nat → Prop} (r : mRl h t s V) (hv : ∀ j, V' j → V j) : mRl h t s V' := by
  obtain ⟨r1, r2, r3, r4, r5, r6⟩ := r
  exact ⟨r1, r2, r3, r4, fun j hj => r5 j (hv j hj), fun j hj => r6 j (hv j hj)⟩
/-- an item is come to, in the model -/
theorem mcome {h h1 h4 h6 h8 : zHp} {t i : Nat} {s : zLyS} {V : Nat → Prop} (r : mRl h t s V) (hs : lS s < 400)
    (e1 : h1 = sI h 343 34 (gI h 343 34 + 1)) (e4 : h4 = sI h1 363 i (gI h1 343 33)) (e6 : h6 = sI h4 364 i (gI h4 343 33)) (e8 : h8 = sL h6 362 i 0) :
    mRl h8 t (lCome i (lTick s)) (fun j => V j ∨ j = i) ∧ (∀ b j, b ≠ 363 → b ≠ 364 → ¬ (b = 343 ∧ j = 34) → gI h8 b j = gI h b j) ∧ gI h8 343 34 = gI h 343 34 + 1 ∧ (∀ j, j ≠ i → gL h8 362 j = gL h 362 j) ∧ (∀ b j, gR h8 b j = gR h b j) := by
  obtain ⟨r1, r2, r3, r4, r5, r6⟩ := r
  have p1 : gI h1 343 33 = gI h 343 33 := by rw [e1, gI_sI, if_neg (by omega)]
  have p4 : gI h4 343 33 = gI h 343 33 := by rw [e4, gI_sI, if_neg (by omega), p1]
  have i8 : ∀ b j, gI h8 b j = gI h6 b j := fun b j => by rw [e8]; rfl
  have o8 : ∀ b j, b ≠ 363 → b ≠ 364 → ¬ (b = 343 ∧ j = 34) → gI h8 b j = gI h b j := fun b j q1 q2 q3 => by
    rw [i8, e6, gI_sI, if_neg (fun w => q2 w.1), e4, gI_sI, if_neg (fun w => q1 w.1), e1, gI_sI, if_neg q3]
  have w8 : ∀ j, gL h8 362 j = if j = i then 0 else gL h 362 j := fun j => by
    rw [e8, gL_sL]
    by_cases q : j = i
    · rw [if_pos ⟨rfl, q⟩, if_pos q]
    · rw [if_neg (fun z => q z.2), if_neg q, e6, e4, e1]
      rfl
  have g8 : ∀ j, gI h8 363 j = if j = i then gI h 343 33 else gI h 363 j := fun j => by
    rw [i8, e6, gI_sI, if_neg (by omega), e4, gI_sI, p1]
    by_cases q : j = i
    · rw [if_pos ⟨rfl, q⟩, if_pos q]
    · rw [if_neg (fun z => q z.2), if_neg q, e1, gI_sI, if_neg (by omega)]
  have n8 : ∀ j, gI h8 364 j = if j = i then gI h 343 33 else gI h 364 j := fun j => by
    rw [i8, e6, gI_sI, p4]
    by_cases q : j = i
    · rw [if_pos ⟨rfl, q⟩, if_pos q]
    · rw [if_neg (fun z => q z.2), if_neg q, e4, gI_sI, if_neg (by omega), e1, gI_sI, if_neg (by omega)]
  have s8 : gI h8 343 34 = gI h 343 34 + 1 := by rw [i8, e6, gI_sI, if_neg (by omega), e4, gI_sI, if_neg (by omega), e1, gI_sI, if_pos ⟨rfl, rfl⟩]
  have tk : lTick s = lMk (lF s) (lB s) (lP s) (lS s + 1) (lW s) (lG s) (lE s) := by unfold lTick; rw [if_neg (by omega)]
  have mt : mT h8 t = mT h t := mT_eq (o8 _ _ (by omega) (by omega) (by omega)) (fun a f => o8 _ _ (by omega) (by omega) (by omega))
  have fs : mFs h8 = mFs h := by
    unfold mFs
    rw [o8 343 31 (by omega) (by omega) (by omega)]
    refine List.map_congr_left (fun j _ => ?_)
    unfold mFl
    rw [o8 354 j (by omega) (by omega) (by omega), o8 355 j (by omega) (by omega) (by omega), o8 356 j (by omega) (by omega) (by omega), o8 357 j (by omega) (by omega) (by omega), o8 358 j (by omega) (by omega) (by omega), o8 359 j (by omega) (by omega) (by omega), o8 360 j (by omega) (by omega) (by omega)]
    congr 1
    exact List.map_congr_left (fun x _ => o8 _ _ (by omega) (by omega) (by omega))
  refine ⟨⟨?_, ?_, ?_, ?_, fun j hj => ⟨?_, ?_⟩, fun j hj pl => ?_⟩, o8, s8, fun j hj => by rw [w8, if_neg hj], fun b j => by rw [e8, e6, e4, e1]; rfl⟩
  · rw [tk, fs]; exact r1
  · rw [tk, o8 _ _ (by omega) (by omega) (by omega)]; exact r2
  · rw [tk, o8 _ _ (by omega) (by omega) (by omega)]; exact r3
  · rw [tk, s8]
    show lS s + 1 = _
    rw [r4]
  · rw [tk, g8]
    show upF (lG s) i (lP s) j = _
    unfold upF
    by_cases q : j = i
    · rw [if_pos q, if_pos q, r3]
    · rw [if_neg q, if_neg q]
      exact (r5 j (by rcases hj with w | w; exact w; exact absurd w q)).1
  · rw [tk, n8]
    show upF (lE s) i (lP s) j = _
    unfold upF
    by_cases q : j = i
    · rw [if_pos q, if_pos q, r3]
    · rw [if_neg q, if_neg q]
      exact (r5 j (by rcases hj with w | w; exact w; exact absurd w q)).2
  · rw [tk, w8]
    show upF (lW s) i 0 j = _
    unfold upF
    by_cases q : j = i
    · rw [if_pos q, if_pos q]
    · rw [if_neg q, if_neg q]
      rw [mt] at pl
      exact r6 j (by rcases hj with w | w; exact w; exact absurd w q) pl
