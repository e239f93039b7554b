/-! the state that both sides begin with -/
theorem z_sI {h : zHp} {a i b j : Nat} {z : Int} (e : gI h b j = 0) (hz : z = 0 ∨ ¬ (b = a ∧ j = i)) : gI (sI h a i z) b j = 0 := by
  rw [gI_sI]
  by_cases q : b = a ∧ j = i
  · rw [if_pos q]
    rcases hz with w | w
    · exact w
    · exact absurd q w
  · rw [if_neg q]; exact e
section ZERO
variable {h : zHp} {a b j c : Nat}
theorem z_row (e : gI h b j = 0) : gI (wRow a h) b j = 0 := z_sI (h := sR h a 0 (a + 1)) e (Or.inl rfl)
theorem z_dl (hb : b ≠ c) (e : gI h b j = 0) : ∀ n, gI (wDl c h n) b j = 0
  | 0 => e
  | n + 1 => z_sI (z_dl hb e n) (Or.inr (fun w => hb w.1))
theorem z_doc (hb : b ≠ a + 3) (e : gI h b j = 0) : gI (wDoc a h) b j = 0 := z_dl hb (z_row (a := a + 1) e) 4
theorem z_hl (hb : ∀ i, i < 13 → b ≠ 15 + 5 * i + 3) (e : gI h b j = 0) : ∀ n, n ≤ 13 → gI (wHl h n) b j = 0
  | 0, _ => e
  | n + 1, hn => z_doc (hb n (by omega)) (z_hl hb e n (by omega))
theorem z_hist (hb : ∀ i, i < 13 → b ≠ 15 + 5 * i + 3) (e : gI h b j = 0) : gI (wHist h) b j = 0 := z_sI (z_sI (z_hl (h := sR (sR h 13 0 8) 13 1 14) hb e 13 (Nat.le_refl 13)) (Or.inl rfl)) (Or.inl rfl)
theorem z_tl (e : gI h b j = 0) : ∀ n, gI (wTl a h n) b j = 0
  | 0 => e
  | n + 1 => z_tl e n
theorem z_tm (e : gI h b j = 0) : gI (wTm a h) b j = 0 := z_sI (z_tl (h := sR h a 0 (a + 1)) e 24) (Or.inl rfl)
theorem z_par (hb : b ≠ 211) (e : gI h b j = 0) : gI (wPar h) b j = 0 := z_sI (z_sI (z_sI (h := sR (sR h 211 0 2) 211 1 185) e (Or.inl rfl)) (Or.inr (fun w => hb w.1))) (Or.inr (fun w => hb w.1))
theorem z_pat (e : gI h b j = 0) : gI (wPat h) b j = 0 := z_sI (h := sR (sR h 212 0 213) 212 1 214) e (Or.inl rfl)
theorem z_ll (e : gI h b j = 0) : ∀ n, gI (wLl h n) b j = 0
  | 0 => e
  | n + 1 => z_ll e n
theorem z_lay (e : gI h b j = 0) : gI (wLay h) b j = 0 := by
  unfold wLay
  rw [gI_sR, gI_sR, gI_sR, gI_sR, gI_sR, gI_sR, gI_sR]
  refine z_ll ?_ 60
  rw [gI_sR]
  exact e
theorem z_el (e : gI h b j = 0) : ∀ n, gI (wEl h n) b j = 0
  | 0 => e
  | n + 1 => z_tm (z_el e n)
theorem z_ed (h1 : b ≠ 11) (h2 : ∀ i, i < 13 → b ≠ 15 + 5 * i + 3) (h3 : b ≠ 211) : gI wEd b j = 0 := by
  have e1 : gI eH1 b j = 0 := by
    unfold eH1
    rw [gI_sR, gI_sR]
    refine z_hist h2 ?_
    rw [gI_sR]
    refine z_doc (a := 8) h1 ?_
    rw [gI_sR]
    refine z_row ?_
    rw [gI_sR]
    refine z_row ?_
    rw [gI_sR]
    refine z_row ?_
    rfl
  unfold wEd
  refine z_sI ?_ (Or.inl rfl)
  rw [gI_sR, gI_sR]
  refine z_lay ?_
  rw [gI_sR]
  refine z_pat ?_
  rw [gI_sR]
  refine z_par h3 ?_
  rw [gI_sR]
  refine z_tm ?_
  exact z_el e1 4
theorem z_hh2 (h1 : b ≠ 11) (h2 : ∀ i, i < 13 → b ≠ 15 + 5 * i + 3) (h3 : b ≠ 211) : gI hh0 b j = 0 := by
  unfold hh0 wMd
  simp only [gI_sR]
  exact z_ed h1 h2 h3
end ZERO
theorem z_hi (a j : Nat) (ha : 80 ≤ a) (h3 : a ≠ 211) : gI hh0 a j = 0 := z_hh2 (by omega) (fun i hi => by omega) h3
theorem dOk_8 : dOk hh0 8 := by
  refine ⟨?_, fun j _ => ?_, fun o ho => Or.inl ⟨E11 o ho, z_hh2 (by omega) (fun i _ => by omega) (by omega)⟩⟩
  · rw [z_hh2 (by omega) (fun i _ => by omega) (by omega)]; omega
  · rw [z_hh2 (by omega) (fun i _ => by omega) (by omega)]; omega
theorem dOk_15 {i : Nat} (hi : i < 13) : dOk hh0 (15 + 5 * i) := by
  refine ⟨?_, fun j _ => ?_, fun o ho => Or.inl ⟨E15 i hi o ho, z_hh2 (by omega) (fun i _ => by omega) (by omega)⟩⟩
  · rw [z_hh2 (by omega) (fun i _ => by omega) (by omega)]; omega
  · rw [z_hh2 (by omega) (fun i _ => by omega) (by omega)]; omega
def zD0 : zDc := ([], [(-1, 0), (-1, 0), (-1, 0), (-1, 0)])
def zS0 : zSt := mkS [] [] [] zD0 [] [] 0 (fun _ => [])
theorem tOk_0 : tOk [] := ⟨Nat.zero_le _, fun w => absurd w (Nat.lt_irrefl 0), fun i hi => absurd hi (Nat.not_lt_zero i)⟩
theorem sOk_0 : sOk2 zS0 := ⟨fun c hc => (by cases hc), ⟨fun c hc => (by cases hc), Nat.zero_le _⟩, fun c hc => (by cases hc), Or.inl rfl⟩
theorem lst_0 {f : Nat → Int} {n : Int} (e : n = 0) : lst f n = [] := by rw [e]; rfl
theorem XS_0 : XS hh0 zS0 := by
  have r : ∀ a j, a ≤ 10 → gI hh0 a j = 0 := fun a j ha => z_hh2 (by omega) (fun i _ => by omega) (by omega)
  refine ⟨⟨zSh_0, sOk_0, ⟨lst_0 (r 2 1 (by omega)), ?_⟩, ⟨lst_0 (r 4 1 (by omega)), ?_⟩, ⟨lst_0 (r 6 1 (by omega)), ?_⟩, r 1 11 (by omega), fun t ht => ⟨?_, ?_, tOk_0⟩, ?_, fun t ht => ?_, fun t u ht hu n => ?_⟩, ⟨fun i hi => ?_, fun i j hi hj e => ?_, dOk_8, ?_, ?_, ?_⟩, ?_, ?_, ?_⟩
  · unfold rOk; rw [r 2 1 (by omega)]; exact ⟨Int.le_refl 0, Int.natCast_nonneg _⟩
  · unfold rOk; rw [r 4 1 (by omega)]; exact ⟨Int.le_refl 0, Int.natCast_nonneg _⟩
  · unfold rOk; rw [r 6 1 (by omega)]; exact ⟨Int.le_refl 0, Int.natCast_nonneg _⟩
  · rw [E80 t ht]; exact ztms (by omega)
  · rw [E80 t ht]; unfold xT; rw [z_hh2 (by omega) (fun i _ => by omega) (by omega)]; rfl
  · rw [E110]; decide +kernel
  · rw [E80 t ht, E110, z_hh2 (by omega) (fun i _ => by omega) (by omega)]; omega
  · rw [E80 t ht, E80 u hu]; omega
  · rw [E14 i hi]; exact ⟨zhds hi, by omega, dOk_15 hi⟩
  · rw [E14 i hi, E14 j hj] at e; omega
  · rw [z_hh2 (by omega) (fun i _ => by omega) (by omega)]; omega
  · rw [z_hh2 (by omega) (fun i _ => by omega) (by omega), z_hh2 (by omega) (fun i _ => by omega) (by omega)]; omega
  · rw [z_hh2 (by omega) (fun i _ => by omega) (by omega)]; omega
  · have e : dOv hh0 8 = [(-1, 0), (-1, 0), (-1, 0), (-1, 0)] := by
      show [(gI hh0 11 0, gI hh0 12 0), (gI hh0 11 1, gI hh0 12 1), (gI hh0 11 2, gI hh0 12 2), (gI hh0 11 3, gI hh0 12 3)] = _
      have z : ∀ j, gI hh0 12 j = 0 := fun j => z_hh2 (by omega) (fun i _ => by omega) (by omega)
      rw [E11 0 (by omega), E11 1 (by omega), E11 2 (by omega), E11 3 (by omega), z, z, z, z]
    show (lst (gI hh0 10) (gI hh0 9 1), dOv hh0 8) = _
    rw [e, lst_0 (r 9 1 (by omega))]
    rfl
  · show hPast hh0 = []
    unfold hPast; rw [z_hh2 (by omega) (fun i _ => by omega) (by omega)]; rfl
  · show hFut hh0 = []
    have e2 : gI hh0 13 2 = 0 := z_hh2 (by omega) (fun i _ => by omega) (by omega)
    have e3 : gI hh0 13 3 = 0 := z_hh2 (by omega) (fun i _ => by omega) (by omega)
    unfold hFut; rw [e3, e2]; rfl
theorem MS_0 : MS hh0 zS0 := by
  have r : ∀ a j, 300 ≤ a → gI hh0 a j = 0 := fun a j ha => z_hi a j (by omega) (by omega)
  refine ⟨⟨zSh_0, sOk_0, ⟨lst_0 (r 343 12 (by omega)), ?_⟩, ⟨lst_0 (r 343 8 (by omega)), ?_⟩, ⟨lst_0 (r 343 10 (by omega)), ?_⟩, r 343 6 (by omega), fun t ht => ⟨⟨r 352 t (by omega), fun i hi => absurd hi (Nat.not_lt_zero i)⟩, tOk_0⟩⟩, ⟨?_, ?_, ?_, ⟨?_, fun j _ => ?_, fun k hk e => ?_⟩, fun i hi => ?_, fun i hi => ?_⟩, ?_, ?_, ?_⟩
  · unfold mtOk; rw [r 343 12 (by omega)]; omega
  · rw [r 343 8 (by omega)]; omega
  · unfold kmOk; rw [r 343 10 (by omega)]; omega
  · rw [r 343 2 (by omega)]; omega
  · rw [r 343 4 (by omega)]; omega
  · rw [r 343 2 (by omega), r 343 4 (by omega)]; omega
  · rw [r 344 _ (by omega)]; omega
  · rw [r 344 _ (by omega)]; omega
  · rw [r 344 _ (by omega)] at e; omega
  · rw [r 343 2 (by omega)] at hi; omega
  · rw [r 343 4 (by omega)] at hi; omega
  · have e : mOv hh0 344 0 = [(-1, 0), (-1, 0), (-1, 0), (-1, 0)] := by
      unfold mOv
      have z : ∀ k : Nat, (if gI hh0 344 (0 + 201 + 3 * k) = 1 then (gI hh0 344 (0 + 202 + 3 * k), gI hh0 344 (0 + 203 + 3 * k)) else (-1, 0)) = ((-1, 0) : Int × Int) := fun k => by rw [if_neg (by rw [r 344 _ (by omega)]; omega)]
      rw [List.map_congr_left (fun k _ => z k)]
      rfl
    show (lst (fun j => gI hh0 344 (0 + j)) (gI hh0 344 (0 + 200)), mOv hh0 344 0) = _
    rw [e, lst_0 (r 344 _ (by omega))]
    rfl
  · show mPast hh0 = []
    unfold mPast; rw [r 343 2 (by omega)]; rfl
  · show mFut hh0 = []
    unfold mFut; rw [r 343 4 (by omega)]; rfl
theorem BS_0 : BS hh0 zS0 := ⟨XS_0, MS_0⟩
