/-! the model's counterparts -/
section MCPT
variable {G : zG} {d : Nat} {Q : Option zV → zHp → Prop} {h : zHp} {s : zSt}
theorem ym_lays2 {o : Int} (hd : 4 ≤ d) (x : MS h s) (op : ovP (sD s) o) (k : ∀ g, MS g s → zF4 mLf h g → mLd g (yL s o) → Q none g) : wpN G d M_X11_laysOut 0 (zar 0 [vR 343, vI o]) [] h Q := by
  have oe : o = ((o.toNat : Nat) : Int) := by have := op.1; omega
  rw [oe] at op
  rw [show zar 0 [vR 343, vI o] = zar 0 [vR 343, vI ((o.toNat : Nat) : Int)] by rw [← oe]]
  exact sp_mlay hd x.1.1 (MS_8 x).1 (MS_8 x).2 x.1.2.2.2.2.2.2 op (fun g s' F L => k g (MS_L F x) F L)
theorem ym_first {o i o2 : Int} {p : List Int} (hd : 6 ≤ d) (x : MS h s) (L : mLd h (yL s o2)) (op : ovP (sD s) o2) (p4 : p.length ≤ 4) (so : ∀ l : Nat, l < p.length → gI h 368 l = p.getD l 0) (k : Q (some (vI (fEq (yL s o2).1 p 0))) h) : wpN G d M_X11_counterpart 71 [(0, vR 343), (1, vI o), (2, vI i), (3, vI o2), (4, vI (p.length : Int)), (5, vI ((0 : Nat) : Int))] [] h Q := by
  have ln := mLd_len L
  have k : Q (some (vI (fEq ((yL s o2).1.drop 0) p 0))) h := k
  have loop : ∀ (m j : Nat), j + m = (yL s o2).1.length → fEq ((yL s o2).1.drop j) p j = fEq ((yL s o2).1.drop 0) p 0 → wpN G d M_X11_counterpart 71 [(0, vR 343), (1, vI o), (2, vI i), (3, vI o2), (4, vI (p.length : Int)), (5, vI (j : Int))] [] h Q := by
    intro m
    induction m with
    | zero =>
      intro j hj e
      refine vc_X11_counterpart_71 o i o2 p.length j h x.1.1 (by omega) (fun _ _ _ _ _ _ _ _ => False) (fun _ _ _ _ _ _ _ _ w => w.elim) ⟨fun w => ?_, fun w => by omega⟩
      rw [List.drop_eq_nil_of_le (by omega)] at e
      rw [← e] at k
      exact k
    | succ m ih =>
      intro j hj e
      obtain ⟨a1, a2, a3, a4, a5, a6, a7⟩ := ym_fd x L op (i := j) (by omega)
      have jj : ((j : Nat) : Int).toNat = j := by omega
      have eq : (mFl h j).2 = p ↔ (gI h 360 j = (p.length : Int) ∧ ∀ l : Nat, l < p.length → gI h 361 (4 * j + l) = p.getD l 0) := by
        show ((List.range (gI h 360 j).toNat).map (fun k => gI h 361 (4 * j + k)) = p) ↔ _
        rw [rng_eq]
        constructor
        · rintro ⟨w1, w2⟩
          exact ⟨by omega, fun l hl => w2 l (by omega)⟩
        · rintro ⟨w1, w2⟩
          exact ⟨by omega, fun l hl => w2 l (by omega)⟩
      rw [drop_c a1, fEq] at e
      -- the next field
      have next : (mFl h j).2 ≠ p → ∀ l : Nat, wpN G d M_X11_counterpart 102 [(0, vR 343), (1, vI o), (2, vI i), (3, vI o2), (4, vI (p.length : Int)), (5, vI (j : Int)), (6, vI 0), (7, vI (l : Int))] [] h Q := fun ne l => by
        rw [if_neg ne] at e
        refine vc_X11_counterpart_102 o i o2 p.length j 0 l h x.1.1 (by omega) (fun y1 y2 y3 y4 y5 g => y1 = o ∧ y2 = i ∧ y3 = o2 ∧ y4 = (p.length : Int) ∧ y5 = ((j + 1 : Nat) : Int) ∧ g = h) ?_ (fun _ _ _ _ _ _ _ _ => False) (fun _ _ _ _ _ _ _ _ w => w.elim) ⟨fun _ => ⟨fun _ => ⟨by omega, fun x3 e3 _ => ⟨rfl, rfl, rfl, rfl, by omega, rfl⟩⟩, fun w => absurd rfl w⟩, fun _ => ⟨fun _ => ⟨fun _ => ⟨by omega, fun x3 e3 _ => ⟨rfl, rfl, rfl, rfl, by omega, rfl⟩⟩, fun w => absurd rfl w⟩, fun w => absurd rfl w⟩⟩
        rintro _ _ _ _ _ _ ⟨z0, z1, z2, z3, z4, z5⟩
        rw [z0, z1, z2, z3, z4, z5]
        exact ih (j + 1) (by omega) e
      have inner : gI h 360 j = (p.length : Int) → ∀ (m l : Nat), l + m = p.length → (∀ t : Nat, t < l → gI h 361 (4 * j + t) = p.getD t 0) → wpN G d M_X11_counterpart 102 [(0, vR 343), (1, vI o), (2, vI i), (3, vI o2), (4, vI (p.length : Int)), (5, vI (j : Int)), (6, vI 1), (7, vI (l : Int))] [] h Q := by
        intro e6 m
        induction m with
        | zero =>
          intro l hl a
          have ee : (mFl h j).2 = p := eq.mpr ⟨e6, fun t ht => a t (by omega)⟩
          rw [if_pos ee] at e
          rw [← e] at k
          exact vc_X11_counterpart_102 o i o2 p.length j 1 l h x.1.1 (by omega) (fun _ _ _ _ _ _ => False) (fun _ _ _ _ _ _ w => w.elim) (fun _ _ _ _ _ _ _ _ => False) (fun _ _ _ _ _ _ _ _ w => w.elim) ⟨fun _ => ⟨fun w => absurd w (by omega), fun _ => k⟩, fun w => by omega⟩
        | succ m ihm =>
          intro l hl a
          have ll : ((l : Nat) : Int).toNat = l := by omega
          have jl : (4 * (j : Int) + (l : Int)).toNat = 4 * j + l := by omega
          refine vc_X11_counterpart_102 o i o2 p.length j 1 l h x.1.1 (by omega) (fun _ _ _ _ _ _ => False) (fun _ _ _ _ _ _ w => w.elim) (fun y1 y2 y3 y4 y5 y6 y7 g => y1 = o ∧ y2 = i ∧ y3 = o2 ∧ y4 = (p.length : Int) ∧ y5 = (j : Int) ∧ y7 = ((l + 1 : Nat) : Int) ∧ g = h ∧ ((y6 = 1 ∧ gI h 361 (4 * j + l) = p.getD l 0) ∨ (y6 = 0 ∧ gI h 361 (4 * j + l) ≠ p.getD l 0))) ?_ ⟨fun w => by omega, fun _ => ⟨fun w => absurd w (by omega), fun _ => ⟨by omega, by omega, by omega, by omega, fun c => ⟨by omega, fun x10 e10 _ => ⟨rfl, rfl, rfl, rfl, rfl, by omega, rfl, Or.inr ⟨rfl, ?_⟩⟩⟩, fun c => ⟨by omega, fun x12 e12 _ => ⟨rfl, rfl, rfl, rfl, rfl, by omega, rfl, Or.inl ⟨rfl, ?_⟩⟩⟩⟩⟩⟩
          · rintro _ _ _ _ _ _ _ _ ⟨z0, z1, z2, z3, z4, z5, z6, z7⟩
            rw [z0, z1, z2, z3, z4, z5, z6]
            rcases z7 with ⟨w1, w2⟩ | ⟨w1, w2⟩
            · rw [w1]
              refine ihm (l + 1) (by omega) (fun t ht => ?_)
              by_cases q : t = l
              · rw [q]; exact w2
              · exact a t (by omega)
            · rw [w1]
              exact next (fun z => w2 ((eq.mp z).2 l (by omega))) (l + 1)
          · rw [jl, ll, so l (by omega)] at c; exact c
          · rw [jl, ll, so l (by omega)] at c; exact c
      refine vc_X11_counterpart_71 o i o2 p.length j h x.1.1 (by omega) (fun y1 y2 y3 y4 y5 y6 y7 g => y1 = o ∧ y2 = i ∧ y3 = o2 ∧ y4 = (p.length : Int) ∧ y5 = (j : Int) ∧ y7 = ((0 : Nat) : Int) ∧ g = h ∧ ((y6 = 1 ∧ gI h 360 j = (p.length : Int)) ∨ (y6 = 0 ∧ gI h 360 j ≠ (p.length : Int)))) ?_ ⟨fun w => by omega, fun w => ⟨by omega, fun c _ => ⟨rfl, rfl, rfl, rfl, rfl, rfl, rfl, Or.inr ⟨rfl, ?_⟩⟩, fun c _ => ⟨rfl, rfl, rfl, rfl, rfl, rfl, rfl, Or.inl ⟨rfl, ?_⟩⟩⟩⟩
      · rintro _ _ _ _ _ _ _ _ ⟨z0, z1, z2, z3, z4, z5, z6, z7⟩
        rw [z0, z1, z2, z3, z4, z5, z6]
        rcases z7 with ⟨w1, w2⟩ | ⟨w1, w2⟩
        · rw [w1]
          exact inner w2 p.length 0 (by omega) (fun t ht => absurd ht (by omega))
        · rw [w1]
          exact next (fun z => w2 (eq.mp z).1) 0
      · rw [jj] at c; exact c
      · rw [jj] at c; exact c
  exact loop (yL s o2).1.length 0 (by omega) rfl
theorem ym_counterpart {o i o2 : Int} (hd : 6 ≤ d) (x : MS h s) (k : ∀ g, MS g s → mcF h g → Q (some (vI (rCpt s o i o2))) g) : wpN G d M_X11_counterpart 0 (zar 0 [vR 343, vI o, vI i, vI o2]) [] h Q := by
  have bad : ∀ g, ¬ (ovP (sD s) o2 ∧ hF s o i) → MS g s → mcF h g → Q (some (vI (-1001))) g := fun g nb xg cf => by
    have e : rCpt s o i o2 = -1001 := by unfold rCpt; rw [cI_n nb]
    rw [e] at k; exact k g xg cf
  refine vc_X11_counterpart_0 o i o2 h x.1.1 (by omega) (fun y1 y2 y3 y4 y5 g => y1 = o ∧ y2 = i ∧ y3 = o2 ∧ wpN G d M_X11_counterpart 32 [(0, vR 343), (1, vI o), (2, vI i), (3, vI o2), (4, vI y4), (5, vI y5)] [] g Q) ?_ (ym_hasF (by omega) x (fun g nf xg cf => qI_i ⟨xg.1.1, fun _ => bad g (fun w => nf w.2) xg cf, fun w2 => absurd rfl w2⟩) (fun g f xg cf L => qI_i ⟨xg.1.1, fun w2 => absurd w2 (by omega), fun _ => ym_pres (by omega) xg (fun np => qI_i ⟨xg.1.1, fun w2 => absurd rfl w2, fun _ => bad g (fun w => np w.1) xg cf⟩) (fun op2 => qI_i ⟨xg.1.1, fun _ => ?_, fun w2 => absurd w2 (by omega)⟩)⟩))
  · rintro _ _ _ _ _ _ ⟨z0, z1, z2, z4⟩
    rw [z0, z1, z2]
    exact z4
  · have ff := f
    obtain ⟨op, i0, i1⟩ := f
    obtain ⟨a1, a2, a3, a4, a5, a6, a7⟩ := ym_fd xg L op (i := i.toNat) (by omega)
    have lp : (mFl g i.toNat).2.length = (gI g 360 i.toNat).toNat := by
      show ((List.range (gI g 360 i.toNat).toNat).map (fun k => gI g 361 (4 * i.toNat + k))).length = _
      rw [List.length_map, List.length_range]
    have gp : ∀ l : Nat, l < (mFl g i.toNat).2.length → (mFl g i.toNat).2.getD l 0 = gI g 361 (4 * i.toNat + l) := fun l hl => by
      show ((List.range (gI g 360 i.toNat).toNat).map (fun k => gI g 361 (4 * i.toNat + k))).getD l 0 = _
      rw [rng_get (by omega)]
    have e : rCpt s o i o2 = fEq (yL s o2).1 (mFl g i.toNat).2 0 := by
      unfold rCpt
      rw [fA_e a1, cI_p ⟨op2, ff⟩]
    rw [e] at k
    generalize (mFl g i.toNat).2 = p at lp gp k
    have pe : gI g 360 i.toNat = (p.length : Int) := by omega
    have np : ∀ b : Nat, b ≠ 368 → ¬ b = 368 := fun b w z => w z
    have loop : ∀ (m l : Nat) (g2 : zHp), l + m = p.length → zSh g2 → zF4 (fun b _ => b = 368) g g2 → (∀ t : Nat, t < l → gI g2 368 t = p.getD t 0) → wpN G d M_X11_counterpart 32 [(0, vR 343), (1, vI o), (2, vI i), (3, vI o2), (4, vI (p.length : Int)), (5, vI (l : Int))] [] g2 Q := by
      intro m
      induction m with
      | zero =>
        intro l g2 hl s2 F a
        have x2 : MS g2 s := MS_F F (fun j _ => np _ (by omega)) (fun b j hb => np _ (by omega)) xg
        have c2 : mcF h g2 := mcF_tr cf (mcF_4 F (fun b j hb => np _ (by omega)))
        refine vc_X11_counterpart_32 o i o2 p.length l g2 s2 (by omega) (fun _ _ _ _ _ _ => False) (fun _ _ _ _ _ _ w => w.elim) (fun y1 y2 y3 y4 y5 g' => y1 = o ∧ y2 = i ∧ y3 = o2 ∧ y4 = (p.length : Int) ∧ y5 = ((0 : Nat) : Int) ∧ wpN G d M_X11_counterpart 71 [(0, vR 343), (1, vI o), (2, vI i), (3, vI o2), (4, vI (p.length : Int)), (5, vI ((0 : Nat) : Int))] [] g' Q) ?_ ⟨fun _ => ym_lays2 (by omega) x2 op2 (fun g3 x3 F3 L3 => qV_i ⟨x3.1.1, fun _ => ⟨rfl, rfl, rfl, rfl, rfl, ?_⟩⟩), fun w => by omega⟩
        · rintro _ _ _ _ _ _ ⟨z0, z1, z2, z3, z4, z5⟩
          rw [z0, z1, z2, z3, z4]
          exact z5
        · exact ym_first (by omega) x3 L3 op2 (by omega) (fun t ht => by rw [F3.I 368 t (by unfold mLf; omega)]; exact a t (by omega)) (k g3 x3 (mcF_tr c2 (mcF_L F3)))
      | succ m ih =>
        intro l g2 hl s2 F a
        refine vc_X11_counterpart_32 o i o2 p.length l g2 s2 (by omega) (fun y1 y2 y3 y4 y5 g' => y1 = o ∧ y2 = i ∧ y3 = o2 ∧ y4 = (p.length : Int) ∧ y5 = ((l + 1 : Nat) : Int) ∧ g' = sI g2 368 l (p.getD l 0)) ?_ (fun _ _ _ _ _ _ => False) (fun _ _ _ _ _ _ w => w.elim) ⟨fun w => by omega, fun w => ⟨by omega, by omega, by omega, by omega, fun h6 e6 => ⟨by omega, fun x8 e8 _ => ⟨rfl, rfl, rfl, rfl, by omega, ?_⟩⟩⟩⟩
        · rintro _ _ _ _ _ _ ⟨z0, z1, z2, z3, z4, z5⟩
          rw [z0, z1, z2, z3, z4, z5]
          refine ih (l + 1) _ (by omega) s2 (F.tr (zF4.sI rfl)) (fun t ht => ?_)
          rw [gI_sI]
          by_cases q : t = l
          · rw [if_pos ⟨rfl, q⟩, q]
          · rw [if_neg (fun w => q w.2)]; exact a t (by omega)
        · rw [e6, F.I 361 _ (np _ (by omega)), gp l (by omega), show (4 * i + (l : Int)).toNat = 4 * i.toNat + l by omega, show ((l : Nat) : Int).toNat = l by omega]
    refine ⟨by omega, fun x11 e11 _ => ⟨rfl, rfl, rfl, ?_⟩⟩
    rw [e11, pe]
    exact loop p.length 0 g (by omega) xg.1.1 zF4.rf (fun t ht => absurd ht (by omega))
end MCPT
