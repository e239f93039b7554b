/-! the model's state -/
def MK (h : zHp) (s : zSt) : Prop := zSh h ∧ sOk2 s ∧ (tM h = sTx s ∧ mtOk h) ∧ (cM h = sCl s ∧ 0 ≤ gI h 343 8 ∧ gI h 343 8 ≤ 32) ∧ (kM h = sMk s ∧ kmOk h) ∧ gI h 343 6 = sFo s ∧ mTs h (sTs s)
def MH (h : zHp) (pa fu : List zDc) (D : zDc) : Prop := mhOk h ∧ mv h 344 0 = D ∧ mPast h = pa ∧ mFut h = fu
def MS (h : zHp) (s : zSt) : Prop := MK h s ∧ MH h (sPa s) (sFu s) (sD s)
/-- the program's cells are as they were -/
def mcF (h h' : zHp) : Prop := ∀ b, b < 343 → (∀ j, gI h' b j = gI h b j) ∧ (∀ j, gL h' b j = gL h b j) ∧ ∀ j, gR h' b j = gR h b j
theorem mcF_rf {h : zHp} : mcF h h := fun _ _ => ⟨fun _ => rfl, fun _ => rfl, fun _ => rfl⟩
theorem mcF_tr {h h1 h2 : zHp} (a : mcF h h1) (b : mcF h1 h2) : mcF h h2 := fun x hx => ⟨fun j => ((b x hx).1 j).trans ((a x hx).1 j), fun j => ((b x hx).2.1 j).trans ((a x hx).2.1 j), fun j => ((b x hx).2.2 j).trans ((a x hx).2.2 j)⟩
theorem mcF_4 {P : Nat → Nat → Prop} {h h' : zHp} (F : zF4 P h h') (hp : ∀ b j, b < 343 → ¬ P b j) : mcF h h' := fun b hb => ⟨fun j => (F.1 b j (hp b j hb)).1, fun j => (F.1 b j (hp b j hb)).2, fun j => F.2 b j⟩
section MSTATE
variable {h h' : zHp} {s : zSt}
theorem MK_F {P : Nat → Nat → Prop} (F : zF4 P h h') (p343 : ∀ j, j = 6 ∨ j = 8 ∨ j = 10 ∨ j = 12 → ¬ P 343 j) (pb : ∀ b j, 348 ≤ b → b ≤ 352 → ¬ P b j) (x : MK h s) : MK h' s := by
  obtain ⟨x0, x1, ⟨x2, x3⟩, ⟨x4, x5⟩, ⟨x6, x7⟩, x8, x9⟩ := x
  have e6 := F.I 343 6 (p343 6 (by omega))
  have e8 := F.I 343 8 (p343 8 (by omega))
  have e10 := F.I 343 10 (p343 10 (by omega))
  have e12 := F.I 343 12 (p343 12 (by omega))
  refine ⟨F.Sh x0, x1, ⟨?_, ?_⟩, ⟨?_, by rw [e8]; exact x5⟩, ⟨?_, ?_⟩, by rw [e6]; exact x8, mTs_F F (fun j => pb 351 j (by omega) (by omega)) (fun j => pb 352 j (by omega) (by omega)) x9⟩
  · rw [← x2]; exact lst_eq e12 (fun j _ => F.I _ _ (pb 350 j (by omega) (by omega)))
  · unfold mtOk; rw [e12]; exact x3
  · rw [← x4]; exact lst_eq e8 (fun j _ => F.I _ _ (pb 348 j (by omega) (by omega)))
  · rw [← x6]; exact lst_eq e10 (fun j _ => F.I _ _ (pb 349 j (by omega) (by omega)))
  · unfold kmOk; rw [e10]; exact x7
theorem MH_F {pa fu : List zDc} {D : zDc} {P : Nat → Nat → Prop} (F : zF4 P h h') (p2 : ¬ P 343 2) (p4 : ¬ P 343 4) (pb : ∀ b j, 344 ≤ b → b ≤ 346 → ¬ P b j) (x : MH h pa fu D) : MH h' pa fu D := by
  obtain ⟨o, x2, x3, x4⟩ := x
  have o8 : mdOk h' 344 0 := mdOk_F4 F (fun j => pb 344 j (by omega) (by omega)) o.2.2.2.1
  obtain ⟨q1, q2, q3⟩ := mhist_F o F p2 p4 (fun j => pb 345 j (by omega) (by omega)) (fun j => pb 346 j (by omega) (by omega)) o8
  exact ⟨q1, by rw [mv_cp o.2.2.2.1 (zF4_mv F (fun j => pb 344 j (by omega) (by omega)))]; exact x2, by rw [q2]; exact x3, by rw [q3]; exact x4⟩
theorem MS_F {P : Nat → Nat → Prop} (F : zF4 P h h') (p343 : ∀ j, j ≤ 12 → ¬ P 343 j) (pb : ∀ b j, (344 ≤ b ∧ b ≤ 346) ∨ (348 ≤ b ∧ b ≤ 352) → ¬ P b j) (x : MS h s) : MS h' s :=
  ⟨MK_F F (fun j hj => p343 j (by omega)) (fun b j h1 h2 => pb b j (Or.inr ⟨h1, h2⟩)) x.1, MH_F F (p343 2 (by omega)) (p343 4 (by omega)) (fun b j h1 h2 => pb b j (Or.inl ⟨h1, h2⟩)) x.2⟩
theorem MS_L (F : zF4 mLf h h') (x : MS h s) : MS h' s := MS_F F (fun j hj => by rintro (⟨_, w, _⟩ | ⟨w, _⟩) <;> omega) (fun b j hb => by rintro (⟨w, _⟩ | ⟨w, _⟩) <;> omega) x
theorem mcF_L (F : zF4 mLf h h') : mcF h h' := mcF_4 F (fun b j hb => by rintro (⟨w, _⟩ | ⟨w, _⟩) <;> omega)
end MSTATE
section MEND
variable {G : zG} {d : Nat} {Q : Option zV → zHp → Prop} {h : zHp} {s : zSt}
def MM (h : zHp) (s : zSt) (D : zDc) : Prop := MK h s ∧ MH h (sPa s) (sFu s) D ∧ mdOk h 347 0 ∧ mv h 347 0 = sD s
theorem ym_keep (hd : 1 ≤ d) (x : MS h s) (k : ∀ h', MM h' s (sD s) → mcF h h' → (∀ j, gI h' 344 j = gI h 344 j) → Q none h') : wpN G d M_X11_keeps 0 (zar 0 [vR 343]) [] h Q := by
  refine sp_keeps hd x.1.1 (fun h' s' F e => ?_)
  have p : ∀ b j, b ≠ 347 → ¬ mCp 347 0 b j := fun b j w z => w z.1
  have x8 := x.2.1.2.2.2.1
  refine k h' ⟨MK_F F (fun j _ => p _ _ (by omega)) (fun b j _ _ => p _ _ (by omega)) x.1, MH_F F (p _ _ (by omega)) (p _ _ (by omega)) (fun b j _ _ => p _ _ (by omega)) x.2, ?_, ?_⟩ (mcF_4 F (fun b j hb => p _ _ (by omega))) (fun j => F.I _ _ (p _ _ (by omega)))
  · exact mdOk_cp x8 (fun j hj => by rw [Nat.zero_add]; exact e j hj)
  · rw [mv_cp x8 (fun j hj => by rw [Nat.zero_add]; exact e j hj)]; exact x.2.2.1
theorem mSt_ok : (∀ j, j = 6 ∨ j = 8 ∨ j = 10 ∨ j = 12 → ¬ mSt 343 j) ∧ (∀ b j, 348 ≤ b → b ≤ 352 → ¬ mSt b j) ∧ ∀ b j, b < 343 → ¬ mSt b j := by
  refine ⟨fun j hj => ?_, fun b j h1 h2 => ?_, fun b j hb => ?_⟩
  · rintro ((⟨_, w⟩ | ⟨w, _⟩) | (w | ⟨_, w⟩ | ⟨w, _⟩)) <;> omega
  · rintro ((⟨w, _⟩ | ⟨w, w2⟩) | (w | ⟨w, _⟩ | ⟨w, _⟩)) <;> omega
  · rintro ((⟨w, _⟩ | ⟨w, w2⟩) | (w | ⟨w, _⟩ | ⟨w, _⟩)) <;> omega
theorem mRf_Sc {b j : Nat} (w : mRf b j) : mSc b j := by
  rcases w with (⟨w, w2, w3⟩ | ⟨w, w2⟩) | w
  · exact Or.inr (Or.inl ⟨w, by omega⟩)
  · exact Or.inr (Or.inr ⟨w, by omega⟩)
  · exact Or.inl w
theorem mSc_T : (∀ j, ¬ mSc 351 j) ∧ ∀ j, ¬ mSc 352 j := by
  constructor
  · rintro j (w | ⟨w, _⟩ | ⟨w, _⟩) <;> omega
  · rintro j (w | ⟨w, _⟩ | ⟨w, _⟩) <;> omega
/-- the checks are updated -/
theorem ym_updates {D : zDc} {Ts : Nat → List (List Int)} (hd : 6 ≤ d) (hS : zSh h) (h8 : mdOk h 344 0) (eD : mv h 344 0 = D) (xt : mTs h Ts) (k : ∀ g r, zSh g → zF4 mSc h g → mdOk g 344 0 → updR (rndD Ts) 8 0 D = (r, mv g 344 0) → Q (some (vI r)) g) : wpN G d M_X11_updates 0 (zar 0 [vR 343]) [] h Q := by
  refine sp_updates (rnd := rndD Ts) (J := fun g => zSh g ∧ zF4 mSc h g ∧ mdOk g 344 0) hd ⟨hS, zF4.rf, h8⟩ (fun g jg => jg.1) (fun g jg Q' kk => ?_) (fun g r jg e => k g r jg.1 jg.2.1 jg.2.2 (by rw [← eD]; exact e))
  exact sp_rounds (by omega) jg.1 jg.2.2 rfl (mTs_F jg.2.1 mSc_T.1 mSc_T.2 xt) (fun g' s' F o8 e8 => kk g' ⟨s', jg.2.1.tr (F.mono (fun b j w => mRf_Sc w)), o8⟩ e8)
theorem ym_stays {st : Int} {D : zDc} (hd : 7 ≤ d) (x : MM h s D)
    (kS : ∀ g D', st ≠ 0 → ((sFo s = 0 ∧ D' = D) ∨ (sFo s ≠ 0 ∧ ∃ r, updR (rndD (sTs s)) 8 0 D = (r, D') ∧ 0 ≤ r)) → MS g (cmt s D') → mcF h g → Q (some (vI 1)) g)
    (k0 : ∀ g, (st = 0 ∨ (sFo s ≠ 0 ∧ (updR (rndD (sTs s)) 8 0 D).1 < 0)) → MS g s → mcF h g → Q (some (vI 0)) g) : wpN G d M_X11_stays 0 (zar 0 [vR 343, vI st]) [] h Q := by
  obtain ⟨xk, ⟨o, x2, x3, x4⟩, x5, x6⟩ := x
  have e6 : gI h 343 6 = sFo s := xk.2.2.2.2.2.1
  have xt := xk.2.2.2.2.2.2
  have fin : ∀ (g : zHp) (D' : zDc), zSh g → zF4 mSt h g → mhOk g → mPast g = trim12 (mPast h ++ [mv h 347 0]) → mFut g = [] → mv g 344 0 = D' → MS g (cmt s D') := fun g D' sg F og p f e => ⟨MK_F F mSt_ok.1 mSt_ok.2.1 xk, og, e, by rw [p, x3, x6]; rfl, f⟩
  refine sp_stays (Up := fun r v => updR (rndD (sTs s)) 8 0 D = (r, v)) hd xk.1 o x5 (fun _ _ Q' kk => ym_updates (by omega) xk.1 o.2.2.2.1 x2 xt (fun g r sg F o8 e => kk g r sg F o8 e)) (fun hs hf g sg F og p f e => kS g D hs (Or.inl ⟨by rw [← e6]; exact hf, rfl⟩) (fin g D sg F og p f (by rw [e, x2])) (mcF_4 F mSt_ok.2.2)) (fun hs hf g r up r0 sg F og p f => kS g (mv g 344 0) hs (Or.inr ⟨by rw [← e6]; exact hf, r, up, r0⟩) (fin g _ sg F og p f rfl) (mcF_4 F mSt_ok.2.2)) (fun hh g sg F og p f e => k0 g ?_ ⟨MK_F F mSt_ok.1 mSt_ok.2.1 xk, og, by rw [e, x6], by rw [p, x3], by rw [f, x4]⟩ (mcF_4 F mSt_ok.2.2))
  rcases hh with w | ⟨w, r, v, up, w2⟩
  · exact Or.inl w
  · exact Or.inr ⟨by rw [← e6]; exact w, by rw [up]; exact w2⟩
end MEND
