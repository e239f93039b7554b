/-- the end of an item is set, in the model -/
theorem msetE {h h' : zHp} {t i : Nat} {s : zLyS} {V : Nat → Prop} (r : mRl h t s V) (e : h' = sI h 364 i (gI h 343 33)) : mRl h' t (lSetE s i) V ∧ ∀ b j, b ≠ 364 → gI h' b j = gI h b j := by
  obtain ⟨r1, r2, r3, r4, r5, r6⟩ := r
  have o : ∀ b j, b ≠ 364 → gI h' b j = gI h b j := fun b j q => by rw [e, gI_sI, if_neg (fun w => q w.1)]
  have n : ∀ j, gI h' 364 j = if j = i then gI h 343 33 else gI h 364 j := fun j => by
    rw [e, gI_sI]
    by_cases q : j = i
    · rw [if_pos ⟨rfl, q⟩, if_pos q]
    · rw [if_neg (fun z => q z.2), if_neg q]
  have mt : mT h' t = mT h t := mT_eq (o _ _ (by omega)) (fun a f => o _ _ (by omega))
  have fs : mFs h' = mFs h := by
    unfold mFs
    rw [o 343 31 (by omega)]
    refine List.map_congr_left (fun j _ => ?_)
    unfold mFl
    rw [o 354 j (by omega), o 355 j (by omega), o 356 j (by omega), o 357 j (by omega), o 358 j (by omega), o 359 j (by omega), o 360 j (by omega)]
    congr 1
    exact List.map_congr_left (fun x _ => o _ _ (by omega))
  refine ⟨⟨by rw [fs]; exact r1, by rw [o _ _ (by omega)]; exact r2, by rw [o _ _ (by omega)]; exact r3, by rw [o _ _ (by omega)]; exact r4, fun j hj => ⟨by rw [o _ _ (by omega)]; exact (r5 j hj).1, ?_⟩, fun j hj pl => ?_⟩, o⟩
  · show upF (lE s) i (lP s) j = _
    unfold upF
    rw [n]
    by_cases q : j = i
    · rw [if_pos q, if_pos q, r3]
    · rw [if_neg q, if_neg q]; exact (r5 j hj).2
  · rw [mt] at pl
    have : gL h' 362 j = gL h 362 j := by rw [e]; rfl
    rw [this]
    exact r6 j hj pl
/-- what lAll leaves as it was -/
theorem lAll_keep {T : List (List Int)} {bs : List Int} {K : zLyK} {i : Nat} {s : zLyS} : lG (lAll T bs K i s) = lG s ∧ lE (lAll T bs K i s) = lE s ∧ lS (lAll T bs K i s) = lS s ∧ ∀ j, j ≠ i → lW (lAll T bs K i s) j = lW s j := by
  obtain ⟨w1, w2, w3, w4⟩ := lRep_keep (T := T) (bs := bs) (K := K) (i := i) (tCnt T (lW s) i).toNat 0 s
  unfold lAll
  split
  · refine ⟨w2, w3, w4, fun j hj => ?_⟩
    show upF (lW (lRep T bs K i (tCnt T (lW s) i).toNat 0 s)) i _ j = _
    unfold upF
    rw [if_neg hj, w1]
  · exact ⟨w2, w3, w4, fun j _ => by rw [w1]⟩
/-- the position has moved, in the model -/
theorem msetP {h h' : zHp} {t : Nat} {s : zLyS} {V : Nat → Prop} (r : mRl h t s V) (F : zF4 mPos h h') : mRl h' t (lSetP s (gI h' 343 33)) V := by
  obtain ⟨r1, r2, r3, r4, r5, r6⟩ := r
  have o : ∀ b j, ¬ (b = 343 ∧ j = 33) → gI h' b j = gI h b j := fun b j q => F.I _ _ (fun w => q w)
  have mt : mT h' t = mT h t := mT_eq (o _ _ (by omega)) (fun a f => o _ _ (by omega))
  have fs : mFs h' = mFs h := by
    unfold mFs
    rw [o 343 31 (by omega)]
    refine List.map_congr_left (fun j _ => ?_)
    unfold mFl
    rw [o 354 j (by omega), o 355 j (by omega), o 356 j (by omega), o 357 j (by omega), o 358 j (by omega), o 359 j (by omega), o 360 j (by omega)]
    congr 1
    exact List.map_congr_left (fun x _ => o _ _ (by omega))
  refine ⟨r1.trans fs.symm, r2.trans (o 343 32 (by omega)).symm, rfl, r4.trans (o 343 34 (by omega)).symm, fun j hj => ⟨(r5 j hj).1.trans (o 363 j (by omega)).symm, (r5 j hj).2.trans (o 364 j (by omega)).symm⟩, fun j hj pl => ?_⟩
  rw [mt] at pl
  rw [(F.1 362 j (by rintro ⟨w, _⟩; omega)).2]
  exact r6 j hj pl
