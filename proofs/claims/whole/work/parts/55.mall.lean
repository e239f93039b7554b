theorem rdA_congr {f g : Nat → Int} {s sz lit : Int} (h0 : 0 ≤ s) (e : ∀ j : Nat, s ≤ j → (j : Int) < s + sz → f j = g j) : ∀ k : Nat, (k : Int) ≤ sz → rdA f s sz lit k = rdA g s sz lit k
  | 0, _ => rfl
  | k + 1, hk => by
    rw [rdA, rdA, rdA_congr h0 e k (by omega), e _ (by split <;> omega) (by split <;> omega)]
theorem fVal_congr {f g : Nat → Int} {s sz kind lit : Int} (h0 : 0 ≤ s) (h1 : 0 ≤ sz) (e : ∀ j : Nat, s ≤ j → (j : Int) < s + sz → f j = g j) : fVal f s sz kind lit = fVal g s sz kind lit := by
  unfold fVal
  rw [rdA_congr h0 e _ (by omega)]
/-- an item that lays fields is in order -/
def miOk (h : zHp) (t i : Nat) : Prop := fSz (mi h t i 4) ∧ (0 ≤ mi h t i 1 ∧ mi h t i 1 ≤ 127) ∧
  ((mi h t i 0 = 0 ∧ (mi h t i 5 = 0 ∨ mi h t i 5 = 1) ∧ (mi h t i 6 = 0 ∨ mi h t i 6 = 1)) ∨ (mi h t i 0 = 2 ∧ (mi h t i 10 = 2 ∨ mi h t i 10 = 3 ∨ mi h t i 10 = 4) ∧ (0 ≤ mi h t i 11 ∧ mi h t i 11 < 24) ∧ (0 ≤ mi h t i 12 ∧ mi h t i 12 < 24) ∧ mi h t i 7 = 0))
def mSrO (h : zHp) (t dp : Nat) : Prop := ∀ k : Nat, k < dp → (0 ≤ gI h 365 k ∧ gI h 365 k < 24) ∧ (0 ≤ gI h 367 k ∧ gI h 367 k ≤ 999) ∧ 0 ≤ mi h t (gI h 365 k).toNat 1 ∧ mi h t (gI h 365 k).toNat 1 ≤ 127
theorem mlOk_of {h : zHp} {t i dp : Nat} {rep : Int} (h1 : miOk h t i) (h2 : mSrO h t dp) (r0 : 0 ≤ rep) (r1 : rep ≤ 999) : mlOk h t i dp rep := by
  obtain ⟨a, b, c⟩ := h1
  refine ⟨?_, fun w => ?_, b, ⟨r0, r1⟩, h2⟩
  · rcases a with e | e | e <;> omega
  · rcases c with ⟨q, _⟩ | ⟨q, q2, q3, q4, q5⟩
    · omega
    · exact ⟨q3, q4⟩
theorem tCnt_m {h : zHp} {t i : Nat} {W : Nat → Int} (hiT : (i : Int) < gI h 352 t) (hc : mcOk h t i) (hk : mi h t i 0 ≤ 2) (sW : mi h t i 7 = 2 → W (mi h t i 8).toNat = gL h 362 (mi h t i 8).toNat) : tCnt (mT h t) W i = mCnt h t i := by
  have k0 : ¬ (mi h t i 0 = 3 ∨ mi h t i 0 = 4) := by omega
  unfold tCnt mCnt
  rw [ti_mT hiT, ti_mT hiT, ti_mT hiT, mRow_8, mRow_9, mRow_10]
  rcases hc with q | ⟨q, q2⟩ | ⟨q, q2⟩
  · rw [if_pos q, if_pos rfl, if_pos q]
  · rw [if_neg (show ¬ mi h t i 7 = 0 by omega), if_neg (by omega), if_neg (show ¬ mi h t i 7 = 2 by omega), if_pos rfl, if_neg k0, if_pos q, if_neg (show ¬ mi h t i 7 = 0 by omega), if_pos q]
  · rw [if_neg (show ¬ mi h t i 7 = 0 by omega), if_neg (by omega), if_pos q, if_neg (by omega), if_neg (show ¬ mi h t i 7 = 0 by omega), if_neg (show ¬ mi h t i 7 = 1 by omega), sW q]
