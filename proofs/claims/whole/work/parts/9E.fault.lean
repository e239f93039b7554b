/-! templateFault of both sides -/
section TFAULT2
variable {G : zG} {d : Nat} {Q : Option zV → zHp → Prop} {h : zHp} {s : zSt}
theorem mTs_pr {h' : zHp} {Ts : Nat → List (List Int)} (F : zF4 mPr h h') (x : mTs h Ts) : mTs h' Ts := fun t ht => by
  obtain ⟨⟨r1, r2⟩, ok⟩ := x t ht
  have l24 := ok.1
  refine ⟨⟨by rw [F.I 352 t (by unfold mPr; omega)]; exact r1, fun i hi => ?_⟩, ok⟩
  have e : ∀ f, f < 14 → mi h' t i f = mi h t i f := fun f hf => F.I _ _ (by unfold mPr; omega)
  have q := r2 i hi
  unfold mTr1 at q ⊢
  simp only [e 0 (by omega), e 1 (by omega), e 2 (by omega), e 3 (by omega), e 4 (by omega), e 5 (by omega), e 6 (by omega), e 7 (by omega), e 8 (by omega), e 9 (by omega), e 10 (by omega), e 11 (by omega), e 12 (by omega), e 13 (by omega)]
  exact q
theorem ym_templateFault (hd : 10 ≤ d) (x : MS h s) (k : ∀ g, MS g s → mcF h g → Q (some (vI (rTf (sTx s)))) g) : wpN G d M_X11_templateFault 0 (zar 0 [vR 343]) [] h Q := by
  refine sp_mFault (t := sTx s) x.1.2.1.1 hd x.1.1 x.1.2.2.1.1 x.1.2.2.1.2 (fun h' T dn s' F _ _ => ?_) (fun h' f fl s' F => ?_)
  · obtain ⟨a, b⟩ := MS_pr F x (mTs_pr F x.1.2.2.2.2.2.2)
    rw [rTf_d dn] at k
    exact k h' a b
  · obtain ⟨a, b⟩ := MS_pr F x (mTs_pr F x.1.2.2.2.2.2.2)
    rw [rTf_f fl] at k
    exact k h' a b
end TFAULT2
