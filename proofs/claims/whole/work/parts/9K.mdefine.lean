/-! define of the model -/
/-- what the end of define changes -/
def mDf (t : Nat) : Nat → Nat → Prop := fun b j => (b = 351 ∧ 336 * t ≤ j ∧ j < 336 * t + 336) ∨ (b = 352 ∧ j = t) ∨ (b = 343 ∧ j = 12)
section MDEF
variable {G : zG} {d : Nat} {Q : Option zV → zHp → Prop} {h : zHp} {s : zSt}
theorem mTr1_c {g h : zHp} {t u i : Nat} {T : List (List Int)} (e : ∀ f, f < 14 → mi g t i f = mi h u i f) (q : mTr1 h u T i) : mTr1 g t T i := by
  unfold mTr1 at q ⊢
  simp only [e 0 (by omega), e 1 (by omega), e 2 (by omega), e 3 (by omega), e 4 (by omega), e 5 (by omega), e 6 (by omega), e 7 (by omega), e 8 (by omega), e 9 (by omega), e 10 (by omega), e 11 (by omega), e 12 (by omega), e 13 (by omega)]
  exact q
theorem MS_def {g : zHp} {t : Nat} {T : List (List Int)} (ht : t < 4) (F : zF4 (mDf t) h g) (e12 : gI g 343 12 = 0) (en : gI g 352 t = (T.length : Int)) (er : ∀ j, j < 336 → gI g 351 (336 * t + j) = gI h 351 (1344 + j)) (ok : tOk T) (rs : mRs h T T.length) (x : MS h s) : MS g (setT s t T) ∧ mcF h g := by
  have p343 : ∀ j, j < 12 → ¬ mDf t 343 j := fun j hj => by unfold mDf; omega
  have pb : ∀ b j, (344 ≤ b ∧ b ≤ 350) → ¬ mDf t b j := fun b j hb => by unfold mDf; omega
  obtain ⟨⟨x0, x1, ⟨x2, x3⟩, ⟨x4, x5⟩, ⟨x6, x7⟩, x8, x9⟩, xh⟩ := x
  have c := mc_F F (p343 8 (by omega)) (fun j => pb 348 j (by omega)) x5
  have m := mk_F F (p343 10 (by omega)) (fun j => pb 349 j (by omega)) x7
  refine ⟨⟨⟨F.Sh x0, ⟨fun c hc => (by cases hc), x1.2⟩, ⟨?_, ?_⟩, ⟨c.1.trans x4, c.2⟩, ⟨m.1.trans x6, m.2⟩, (F.I 343 6 (p343 6 (by omega))).trans x8, fun u hu => ?_⟩, MH_F F (p343 2 (by omega)) (p343 4 (by omega)) (fun b j h1 h2 => pb b j (by omega)) xh⟩, mcF_4 F (fun b j hb => by unfold mDf; omega)⟩
  · show tM g = []
    unfold tM; rw [e12]; rfl
  · unfold mtOk; rw [e12]; omega
  · show mTr g u (if u = t then T else sTs s u) ∧ tOk (if u = t then T else sTs s u)
    by_cases q : u = t
    · rw [if_pos q, q]
      refine ⟨⟨en, fun i hi => mTr1_c (fun f hf => ?_) (rs i hi).1⟩, ok⟩
      have l24 := ok.1
      unfold mi
      rw [show 14 * (24 * t + i) + f = 336 * t + (14 * i + f) by omega, er _ (by omega), show 1344 + (14 * i + f) = 14 * (24 * 4 + i) + f by omega]
    · rw [if_neg q]
      obtain ⟨⟨r1, r2⟩, k2⟩ := x9 u hu
      have l24 := k2.1
      refine ⟨⟨by rw [F.I 352 u (by unfold mDf; omega)]; exact r1, fun i hi => mTr1_c (fun f hf => F.I _ _ (by unfold mDf; omega)) (r2 i hi)⟩, k2⟩
theorem ym_define {t : Int} (hd : 11 ≤ d) (x : MS h s) (k : ∀ g, MS g (rDef s t).2 → mcF h g → Q (some (vI (rDef s t).1)) g) : wpN G d M_X11_define 0 (zar 0 [vR 343, vI t]) [] h Q := by
  by_cases ht : 0 ≤ t ∧ t ≤ 3
  · have fin : ∀ (g : zHp) (T : List (List Int)), pDn (sTx s) (bl (sTx s) 0, ([], [])) T → MS g s → mcF h g → gI g 352 4 = (T.length : Int) → mRs g T T.length → ¬ uS s t → wpN G d M_X11_define 66 [(0, vR 343), (1, vI t), (2, vI ((0 : Nat) : Int))] [] g Q := fun g T dn xg cf en rs nu => by
      rw [rDef_y ht nu dn] at k
      have ok := pDn_ok dn
      have loop : ∀ (m i : Nat) (g2 : zHp), i + m = 336 → zF4 (mDf t.toNat) g g2 → (∀ j, j < i → gI g2 351 (336 * t.toNat + j) = gI g 351 (1344 + j)) → gI g2 352 4 = (T.length : Int) → wpN G d M_X11_define 66 [(0, vR 343), (1, vI t), (2, vI (i : Int))] [] g2 Q := by
        intro m
        induction m with
        | zero =>
          intro i g2 hi F er e4
          have sg := F.Sh xg.1.1
          refine vc_X11_define_66 t i g2 sg hd (fun _ _ _ => False) (fun _ _ _ w => w.elim) ⟨fun _ => ⟨by omega, fun h2 e2 h4 e5 => ⟨by omega, ?_⟩⟩, fun w => by omega⟩
          have F2 : zF4 (mDf t.toNat) g2 h2 := by rw [e2]; exact zF4.sI (by unfold mDf; omega)
          have F4 : zF4 (mDf t.toNat) h2 h4 := by rw [e5]; exact zF4.sI (by unfold mDf; omega)
          have en2 : gI h4 352 t.toNat = (T.length : Int) := by
            rw [e5, gI_sI, if_neg (by omega), e2, gI_sI, if_pos ⟨rfl, rfl⟩]; exact e4
          obtain ⟨a, b⟩ := MS_def (t := t.toNat) (T := T) (g := h4) (by omega) ((F.tr F2).tr F4) (by rw [e5, gI_sI, if_pos ⟨rfl, rfl⟩]) en2 (fun j hj => by rw [e5, gI_sI, if_neg (by omega), e2, gI_sI, if_neg (by omega)]; exact er j (by omega)) ok rs xg
          rw [en2]
          exact k h4 a (mcF_tr cf b)
        | succ m ih =>
          intro i g2 hi F er e4
          have sg := F.Sh xg.1.1
          refine vc_X11_define_66 t i g2 sg hd (fun y1 y2 g3 => y1 = t ∧ y2 = ((i + 1 : Nat) : Int) ∧ g3 = sI g2 351 (336 * t.toNat + i) (gI g2 351 (1344 + i))) ?_ ⟨fun w => by omega, fun _ => ⟨by omega, by omega, by omega, by omega, by omega, fun h6 e6 => ⟨by omega, fun x8 e8 _ => ⟨rfl, by omega, ?_⟩⟩⟩⟩
          · rintro _ _ _ ⟨z0, z1, z2⟩
            rw [z0, z1, z2]
            refine ih (i + 1) _ (by omega) (F.tr (zF4.sI (by unfold mDf; omega))) (fun j hj => ?_) (by rw [gI_sI, if_neg (by omega)]; exact e4)
            rw [gI_sI]
            by_cases q : j = i
            · rw [if_pos ⟨rfl, by omega⟩, q]
              exact F.I _ _ (by unfold mDf; omega)
            · rw [if_neg (by omega)]
              exact er j (by omega)
          · rw [e6, show (336 * t + (i : Int)).toNat = 336 * t.toNat + i by omega, show (1344 + (i : Int)).toNat = 1344 + i by omega]
      exact loop 336 0 g rfl zF4.rf (fun j hj => absurd hj (by omega)) en
    have ovl : ∀ (g : zHp) (T : List (List Int)), pDn (sTx s) (bl (sTx s) 0, ([], [])) T → MS g s → mcF h g → gI g 352 4 = (T.length : Int) → mRs g T T.length → ∀ (m o : Nat), o + m = 4 → (∀ o', o' < o → (ovA (sD s) o').1 ≠ t) → wpN G d M_X11_define 32 [(0, vR 343), (1, vI t), (2, vI (o : Int))] [] g Q := fun g T dn xg cf en rs => by
      intro m
      induction m with
      | zero =>
        intro o ho nv
        refine vc_X11_define_32 t o g xg.1.1 hd (fun _ _ _ => False) (fun _ _ _ w => w.elim) (fun y1 y2 g3 => y1 = t ∧ y2 = ((0 : Nat) : Int) ∧ g3 = g) ?_ ⟨fun _ _ => ⟨rfl, rfl, rfl⟩, fun w => by omega⟩
        rintro _ _ _ ⟨z0, z1, z2⟩
        rw [z0, z1, z2]
        exact fin g T dn xg cf en rs (fun ⟨o', h1, h2⟩ => nv o' (by omega) h2)
      | succ m ih =>
        intro o ho nv
        have nxt : (ovA (sD s) o).1 ≠ t → ∀ o', o' < o + 1 → (ovA (sD s) o').1 ≠ t := fun n o' h' => by
          by_cases q : o' = o
          · rw [q]; exact n
          · exact nv o' (by omega)
        refine vc_X11_define_32 t o g xg.1.1 hd (fun y1 y2 g3 => y1 = t ∧ y2 = ((o + 1 : Nat) : Int) ∧ g3 = g ∧ (ovA (sD s) o).1 ≠ t) ?_ (fun _ _ _ => False) (fun _ _ _ w => w.elim) ⟨fun w => by omega, fun _ => ym_pres (by omega) xg (fun np => qI_i ⟨xg.1.1, fun _ => ⟨by omega, fun x7 e7 _ => ⟨rfl, by omega, rfl, ?_⟩⟩, fun w => absurd rfl w⟩) (fun op => qI_i ⟨xg.1.1, fun w => absurd w (by omega), fun _ => sp_templateOf xg.1.1 (by omega) (qI_i ⟨xg.1.1, fun ne => ⟨by omega, fun x14 e14 _ => ⟨rfl, by omega, rfl, ?_⟩⟩, fun eq => ?_⟩)⟩)⟩
        · rintro _ _ _ ⟨z0, z1, z2, z3⟩
          rw [z0, z1, z2]
          exact ih (o + 1) (by omega) (nxt z3)
        · intro w
          refine np ⟨by omega, by omega, ?_⟩
          rw [show ((o : Nat) : Int).toNat = o by omega, w]
          omega
        · have oa := (MS_c xg).2.2.1 o (by omega)
          have w3 := op.2.2
          rw [show ((o : Nat) : Int).toNat = o by omega] at w3
          unfold ovA at w3 ⊢
          rw [oa] at w3 ⊢
          by_cases q : gI g 344 (201 + 3 * o) = 1
          · rw [if_pos q]; exact ne
          · rw [if_neg q] at w3; exact absurd rfl w3
        · have oa := (MS_c xg).2.2.1 o (by omega)
          have w3 := op.2.2
          rw [show ((o : Nat) : Int).toNat = o by omega] at w3
          have u : uS s t := by
            refine ⟨o, by omega, ?_⟩
            unfold ovA at w3 ⊢
            rw [oa] at w3 ⊢
            by_cases q : gI g 344 (201 + 3 * o) = 1
            · rw [if_pos q]; exact eq
            · rw [if_neg q] at w3; exact absurd rfl w3
          rw [rDef_u ht u] at k
          exact k g xg cf
    refine vc_X11_define_0 t h x.1.1 hd (fun y1 y2 g => y1 = t ∧ y2 = ((0 : Nat) : Int) ∧ ∃ T, pDn (sTx s) (bl (sTx s) 0, ([], [])) T ∧ MS g s ∧ mcF h g ∧ gI g 352 4 = (T.length : Int) ∧ mRs g T T.length) ?_ (sp_in x.1.1 (fun r er => qI_i ⟨x.1.1, fun _ => sp_mFault (t := sTx s) x.1.2.1.1 (by omega) x.1.1 x.1.2.2.1.1 x.1.2.2.1.2 (fun h' T dn s' F en rs => qI_i ⟨s', fun _ _ => ⟨rfl, rfl, T, dn, (MS_pr F x (mTs_pr F x.1.2.2.2.2.2.2)).1, (MS_pr F x (mTs_pr F x.1.2.2.2.2.2.2)).2, en, rs⟩, fun w => absurd rfl w⟩) (fun h' f fl s' F => qI_i ⟨s', fun w => absurd w (by omega), fun _ => ?_⟩), fun c => by omega⟩))
    · rintro _ _ g ⟨z0, z1, T, dn, xg, cf, en, rs⟩
      rw [z0, z1]
      exact ovl g T dn xg cf en rs 4 0 rfl (fun o' w => absurd w (by omega))
    · obtain ⟨a, b⟩ := MS_pr F x (mTs_pr F x.1.2.2.2.2.2.2)
      rw [rDef_f ht fl] at k
      exact k h' a b
  · rw [rDef_n ht] at k
    exact vc_X11_define_0 t h x.1.1 hd (fun _ _ _ => False) (fun _ _ _ w => w.elim) (sp_in x.1.1 (fun r er => qI_i ⟨x.1.1, fun c => by omega, fun _ => k h x mcF_rf⟩))
end MDEF
