/-! the fields of an item laid by the model -/
def mLw : Nat → Nat → Prop := fun b j => mLb b j ∨ b = 362
theorem mLb_351 : ∀ j, ¬ mLb 351 j := by rintro j ((⟨w, _⟩ | ⟨w, _⟩) | ⟨w, _⟩) <;> omega
theorem mLb_344 : ∀ j, ¬ mLb 344 j := by rintro j ((⟨w, _⟩ | ⟨w, _⟩) | ⟨w, _⟩) <;> omega
theorem mLb_out {b : Nat} (h1 : b ≠ 343) (h2 : b < 354 ∨ 361 < b) : ∀ j, ¬ mLb b j := by rintro j ((⟨w, _⟩ | ⟨w, w2⟩) | ⟨w, _⟩) <;> omega
theorem mLb_343 {j : Nat} (h1 : j ≠ 31) (h2 : j ≠ 32) (h3 : j ≠ 33) : ¬ mLb 343 j := by rintro ((⟨_, w⟩ | ⟨w, w2⟩) | ⟨_, w⟩) <;> omega
theorem lOne_keep {T : List (List Int)} {bs : List Int} {K : zLyK} {i : Nat} {r : Int} {s : zLyS} : lW (lOne T bs K i r s) = lW s ∧ lG (lOne T bs K i r s) = lG s ∧ lE (lOne T bs K i r s) = lE s ∧ lS (lOne T bs K i r s) = lS s := by
  unfold lOne
  split
  · exact ⟨rfl, rfl, rfl, rfl⟩
  · split
    · exact ⟨rfl, rfl, rfl, rfl⟩
    · exact ⟨rfl, rfl, rfl, rfl⟩
theorem lRep_keep {T : List (List Int)} {bs : List Int} {K : zLyK} {i : Nat} : ∀ (n : Nat) (r : Int) (s : zLyS), lW (lRep T bs K i n r s) = lW s ∧ lG (lRep T bs K i n r s) = lG s ∧ lE (lRep T bs K i n r s) = lE s ∧ lS (lRep T bs K i n r s) = lS s
  | 0, _, _ => ⟨rfl, rfl, rfl, rfl⟩
  | n + 1, r, s => by
    rw [lRep]
    split
    · obtain ⟨q1, q2, q3, q4⟩ := lRep_keep n (r + 1) (lOne T bs K i r s)
      obtain ⟨w1, w2, w3, w4⟩ := lOne_keep (T := T) (bs := bs) (K := K) (i := i) (r := r) (s := s)
      exact ⟨q1.trans w1, q2.trans w2, q3.trans w3, q4.trans w4⟩
    · exact ⟨rfl, rfl, rfl, rfl⟩
theorem lRep_broken {T : List (List Int)} {bs : List Int} {K : zLyK} {i : Nat} {s : zLyS} (h : lB s ≠ 0) : ∀ (n : Nat) (r : Int), lRep T bs K i n r s = s
  | 0, _ => rfl
  | n + 1, r => by rw [lRep, if_neg h]
theorem mKs_eq {h h' : zHp} {dp : Nat} (e : ∀ b j, b = 365 ∨ b = 366 ∨ b = 367 → gI h' b j = gI h b j) : mKs h' dp = mKs h dp := by
  unfold mKs
  congr 1
  exact List.map_congr_left (fun k _ => by rw [e 365 k (Or.inl rfl), e 366 k (Or.inr (Or.inl rfl)), e 367 k (Or.inr (Or.inr rfl))])
theorem mRow_eq {h h' : zHp} {t i : Nat} (e : ∀ f, mi h' t i f = mi h t i f) : mRow h' t i = mRow h t i := by
  unfold mRow
  simp only [e]
theorem mT_eq {h h' : zHp} {t : Nat} (e0 : gI h' 352 t = gI h 352 t) (e : ∀ i f, mi h' t i f = mi h t i f) : mT h' t = mT h t := by
  unfold mT
  rw [e0]
  exact List.map_congr_left (fun i _ => mRow_eq (e i))
/-- what stays as it is while fields are laid -/
theorem mkeep {h h' : zHp} (F : zF4 mLb h h') : (∀ t i f, mi h' t i f = mi h t i f) ∧ (∀ t, mT h' t = mT h t) ∧ (∀ dp, mKs h' dp = mKs h dp) ∧ (∀ b j, b = 352 ∨ (361 < b) → gI h' b j = gI h b j) ∧ ∀ j, gI h' 344 j = gI h 344 j := by
  have a1 : ∀ t i f, mi h' t i f = mi h t i f := fun t i f => mi_F F mLb_351 t i f
  have a4 : ∀ b j, b = 352 ∨ (361 < b) → gI h' b j = gI h b j := fun b j q => F.I _ _ (mLb_out (by omega) (by omega) j)
  exact ⟨a1, fun t => mT_eq (a4 _ _ (Or.inl rfl)) (a1 t), fun dp => mKs_eq (fun b j q => a4 b j (Or.inr (by omega))), a4, fun j => F.I _ _ (mLb_344 j)⟩
