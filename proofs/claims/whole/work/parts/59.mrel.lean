section MREL
variable {G : zG} {d : Nat} {Q : Option zV → zHp → Prop} {h : zHp}
/-- the fields of an item laid: the relation stays, unless the layout breaks off -/
theorem sp_laysAll_rel {t i dp : Nat} {s : zLyS} {V : Nat → Prop} (hd : 2 ≤ d) (hS : zSh h) (h8 : mdOk h 344 0) (ht : t < 5) (hi : i < 24) (hiT : (i : Int) < gI h 352 t) (hB : mBd h dp) (hio : miOk h t i) (hco : mcOk h t i) (hsr : mSrO h t dp) (hst : mStO h t dp)
    (r : mRl h t s V) (s0 : lB s = 0) (vF : mi h t i 0 = 2 → V (mi h t i 11).toNat ∧ V (mi h t i 12).toNat) (vC : mi h t i 7 = 2 → V (mi h t i 8).toNat ∧ tPl (mT h t) (mi h t i 8).toNat)
    (k : ∀ h', zSh h' → zF4 mLw h h' → lVis (lAll (mT h t) (bM h) (mKs h dp) i s) = (mFs h', (gI h' 343 32, gI h' 343 33)) → (lB (lAll (mT h t) (bM h) (mKs h dp) i s) = 0 → mRl h' t (lAll (mT h t) (bM h) (mKs h dp) i s) V) → (0 ≤ gI h' 343 33 ∧ gI h' 343 33 ≤ 1000000) → (∃ m : Nat, gI h' 343 31 = (m : Int) ∧ m ≤ 60 ∧ ∀ j : Nat, j < m → gI h' 360 j ≤ 4) → Q none h') :
    wpN G d M_X11_laysAll 0 (zar 0 [vR 343, vI (t : Int), vI (i : Int)]) [] h Q := by
  obtain ⟨r1, r2, r3, r4, r5, r6⟩ := r
  obtain ⟨⟨n, n1, n2, n3⟩, b41, bdp, b0, bs0, bs1, b33⟩ := hB
  refine sp_laysAll hd hS h8 ht hi hiT n1 n2 b41 bdp b0 (by omega) hio hco hsr hst n3 r1 s0 (by rw [← r2]; exact s0) r3 (fun w => (r5 _ (vF w).1).1) (fun w => (r5 _ (vF w).2).2) (fun w => r6 _ (vC w).1 (vC w).2) (fun h' s' F' e1 e2 e3 bp eW ei em => ?_)
  obtain ⟨a1, a2, a3, a4⟩ := lAll_keep (T := mT h t) (bs := bM h) (K := mKs h dp) (i := i) (s := s)
  have nL : ∀ b j, b ≠ 343 → (b < 354 ∨ 362 < b) → gI h' b j = gI h b j := fun b j q1 q2 => F'.I _ _ (by
    rintro (w | w)
    · exact mLb_out q1 (by omega) j w
    · omega)
  have mt : mT h' t = mT h t := mT_eq (nL 352 t (by omega) (by omega)) (fun a f => nL 351 _ (by omega) (by omega))
  have e34 : gI h' 343 34 = gI h 343 34 := F'.I _ _ (by
    rintro (w | w)
    · exact mLb_343 (by omega) (by omega) (by omega) w
    · omega)
  refine k h' s' F' (by unfold lVis; rw [e1, e2, e3]) (fun z => ⟨e1, e2, e3, ?_, fun j hj => ⟨?_, ?_⟩, fun j hj pl => ?_⟩) bp em
  · rw [a3, r4, e34]
  · rw [a1, nL 363 j (by omega) (by omega)]; exact (r5 j hj).1
  · rw [a2, nL 364 j (by omega) (by omega)]; exact (r5 j hj).2
  · rw [mt] at pl
    by_cases q : j = i
    · rw [q]
      rw [q] at pl
      exact ei z pl
    · rw [a4 j q, eW j q]; exact r6 j hj pl
end MREL
