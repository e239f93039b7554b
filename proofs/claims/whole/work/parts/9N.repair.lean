/-! repair of both sides, as a value -/
def rpD (bs : List Int) (fd : List Int × List Int) : Int := if fdW bs fd = true then rpX (fd.1.getD 2 0) (tg bs) (fd.1.getD 4 0) (fd.1.getD 5 0) (fdV bs fd) else -1002
noncomputable def rRep (s : zSt) (o i : Int) : Int := cI (hF s o i) (rpD (sB s) (fA s o i)) (-1001)
theorem sI_sI (h : zHp) (a j : Nat) (z w : Int) : sI (sI h a j z) a j w = sI h a j w := by
  unfold sI
  congr 1
  funext b k
  by_cases q : b = a ∧ k = j
  · rw [if_pos q, if_pos q]
  · rw [if_neg q, if_neg q]; show (if b = a ∧ k = j then z else h.1 b k) = _; rw [if_neg q]
theorem sI_id (h : zHp) (a j : Nat) : sI h a j (gI h a j) = h := by
  have e : (fun b k => if b = a ∧ k = j then gI h a j else h.1 b k) = h.1 := by
    funext b k
    by_cases q : b = a ∧ k = j
    · rw [if_pos q, q.1, q.2]; rfl
    · rw [if_neg q]
  unfold sI
  rw [e]
section REPB
variable {G : zG} {d : Nat} {Q : Option zV → zHp → Prop} {h : zHp} {s : zSt}
theorem rRep_y {o i : Int} {fd : List Int × List Int} (e : (yL s o).1[i.toNat]? = some fd) (f : hF s o i) : rRep s o i = rpD (sB s) fd := by
  refine (cI_p f).trans ?_
  rw [fA_e e]
theorem fdV_ck {bs : List Int} {fd : List Int × List Int} (hb : byOk (tg bs) (bs.length : Int)) (ok : fdOk bs.length fd) (h2 : 2 ≤ fd.1.getD 2 0) : 0 ≤ fdV bs fd ∧ fdV bs fd < 65536 := by
  obtain ⟨s1, s2, s3, s4⟩ := ok
  have v := (fVal_bd (kind := fd.1.getD 2 0) (lit := fd.1.getD 3 0) hb s2.1 s2.2 s1).1 (by omega)
  have v : 0 ≤ fdV bs fd ∧ fdV bs fd < fSpan (fd.1.getD 1 0) := v
  have z : fSpan (fd.1.getD 1 0) ≤ 65536 := by
    unfold fSpan
    rcases s3 with ⟨w, _⟩ | ⟨⟨_, w⟩ | ⟨_, w⟩, _⟩
    · omega
    · rw [w]; decide
    · rw [w]; decide
  omega
theorem tg_by {bs : List Int} (hb : byB bs) : byOk (tg bs) (bs.length : Int) := fun j hj => tg_byB hb (by omega)
theorem yx_repair {o i : Int} (hd : 13 ≤ d) (x : XS h s) (k : ∀ g, XS g s → xcF h g → Q (some (vI (rRep s o i))) g) : wpN G d M_X10_repair 0 (zar 0 [vR 1, vI o, vI i]) [] h Q := by
  refine vc_X10_repair_0 o i h x.1.1 (by omega) (yx_hasF (by omega) x (fun g nf xg cf => qI_i ⟨xg.1.1, fun w2 => absurd rfl w2, fun _ => ?_⟩) (fun g f xg cf L => qI_i ⟨xg.1.1, fun _ => ?_, fun w2 => absurd w2 (by omega)⟩))
  · have e : rRep s o i = -1001 := cI_n nf
    rw [e] at k; exact k g xg cf
  · have f0 := f
    obtain ⟨op, i0, i1⟩ := f
    obtain ⟨a1, a2, a3, a4, a5, a6, a7⟩ := yx_fd xg L op (i := i.toNat) (by omega)
    obtain ⟨r9, b9⟩ := x9ok (XS_8 xg).1
    have l2 : gI g 9 1 ≤ 200 := (XS_8 xg).1.1.2
    obtain ⟨_, _, lb, eB, _⟩ := XS_8 xg
    have wr : fWrong g 9 (217 + 2 * i.toNat) ↔ fdW (sB s) (xFl g i.toNat) = true := by
      rw [fdWi, ← a3]
      constructor
      · intro w
        exact ⟨w.1, by rw [← a4 w.1]; exact w.2⟩
      · intro w
        exact ⟨w.1, by rw [a4 w.1]; exact w.2⟩
    have e := rRep_y a1 f0
    unfold rpD at e
    refine ⟨by omega, sp_X1_isWrong (by omega) tT_9 (zfds a7) xg.1.1 r9 b9 a2 (fun w => qI_i ⟨xg.1.1, fun _ => ?_, fun z => absurd z (by omega)⟩) (fun w => qI_i ⟨xg.1.1, fun z => absurd rfl z, fun _ => ?_⟩)⟩
    · have ck := fOk_ck a2 w.1
      have vb : 0 ≤ fdV (sB s) (xFl g i.toNat) ∧ fdV (sB s) (xFl g i.toNat) < 65536 := fdV_ck (tg_by (XS_T xg).2.2.1) a5 w.1
      rw [← a3] at vb
      refine sp_X1_repairOf (by omega) tT_9 (zfds a7) xg.1.1 r9 l2 b9 a2.1 ck vb.1 vb.2 (qI_i ⟨xg.1.1, ?_⟩)
      have e2 : rRep s o i = rpX (gI g (217 + 2 * i.toNat) 2) (gI g 10) (gI g (217 + 2 * i.toNat) 4) (gI g (217 + 2 * i.toNat) 5) (fV g 9 (217 + 2 * i.toNat)) := by
        rw [e, if_pos (wr.mp w), ← a3]
        refine rpX_congr ck.2.1 (fun j hj => ?_)
        have hj : (j : Int) < gI g (217 + 2 * i.toNat) 5 := hj
        have c4 := ck.2.2.2
        have q := lst_tg (f := gI g 10) (n := gI g 9 1) (i := (j : Int)) (by omega) (by omega)
        rw [← eB] at q
        exact q
      rw [e2] at k
      exact k g xg cf
    · rw [if_neg (fun z => w (wr.mpr z))] at e
      rw [e] at k
      exact k g xg cf
theorem mdOk_b {p : Nat} {b : Int} (o : mdOk h 344 0) (hp : p < 200) (b0 : 0 ≤ b) (b1 : b ≤ 255) : mdOk (sI h 344 p b) 344 0 := by
  obtain ⟨o1, o2, o3⟩ := o
  refine ⟨by rw [gI_sI, if_neg (by omega)]; exact o1, fun j hj => ?_, fun k hk => ?_⟩
  · rw [gI_sI]
    by_cases q : 344 = 344 ∧ 0 + j = p
    · rw [if_pos q]; exact ⟨b0, b1⟩
    · rw [if_neg q]; exact o2 j hj
  · rw [gI_sI, if_neg (by omega), gI_sI, if_neg (by omega), gI_sI, if_neg (by omega), gI_sI, if_neg (by omega)]
    exact o3 k hk
theorem ym_rep_loop {g : zHp} {i : Nat} {o : Int} (hd : 6 ≤ d) (hS : zSh g) (o8 : mdOk g 344 0) (hi : i < 60) (ck : mCk g i) {V en : Int} (he : en ≤ gI g 359 i) : ∀ (m p : Nat), gI g 358 i ≤ p → (p : Int) + m = en → Q (some (vI (rpL (rpF (gI g 356 i) (gI g 344) (gI g 358 i) (gI g 359 i) V) p m))) g → wpN G d M_X11_repair 59 [(0, vR 343), (1, vI o), (2, vI (i : Int)), (3, vL V), (5, vI en), (6, vI (p : Int))] [] g Q := by
  have ck0 := ck
  obtain ⟨c1, c2, c3, c4⟩ := ck
  have l2 : gI g 344 200 ≤ 200 := o8.1.2
  intro m
  induction m with
  | zero =>
    intro p hp hm k
    exact vc_X11_repair_59 o i V en p g hS hd (fun _ _ _ _ _ _ _ _ _ => False) (fun _ _ _ _ _ _ _ _ _ w => w.elim) ⟨fun _ => k, fun c => by omega⟩
  | succ m ih =>
    intro p hp hm k
    have inner : ∀ (n q : Nat) (z : Int), q + n = 256 → wpN G d M_X11_repair 83 [(0, vR 343), (1, vI o), (2, vI (i : Int)), (3, vL V), (5, vI en), (6, vI (p : Int)), (7, vI (gI g 344 p)), (8, vI (dnB (rpP (gI g 356 i) (gI g 344) (gI g 358 i) (gI g 359 i) V p) q)), (9, vI (255 - (q : Int)))] [] (sI g 344 p z) Q := by
      intro n
      induction n with
      | zero =>
        intro q z hq
        have eq : q = 256 := by omega
        have rg := dnB_rng (rpP (gI g 356 i) (gI g 344) (gI g 358 i) (gI g 359 i) V p) q
        have eF : rpF (gI g 356 i) (gI g 344) (gI g 358 i) (gI g 359 i) V p = dnB (rpP (gI g 356 i) (gI g 344) (gI g 358 i) (gI g 359 i) V p) q := by rw [eq]; rfl
        rw [rpL, eF] at k
        refine vc_X11_repair_83 o i V en p _ _ _ (sI g 344 p z) hS hd (fun y1 y2 y3 y5 y6 g' => y1 = o ∧ y2 = (i : Int) ∧ y3 = V ∧ y5 = en ∧ y6 = ((p + 1 : Nat) : Int) ∧ g' = g ∧ Q (some (vI (rpL (rpF (gI g 356 i) (gI g 344) (gI g 358 i) (gI g 359 i) V) (p + 1) m))) g) ?_ (fun _ _ _ _ _ _ _ _ _ => False) (fun _ _ _ _ _ _ _ _ _ w => w.elim) ⟨fun _ => ⟨by omega, fun h2 e2 => ?_⟩, fun c => by omega⟩
        · rintro _ _ _ _ _ _ ⟨q0, q1, q2, q3, q4, q5, q6⟩
          rw [q0, q1, q2, q3, q4, q5]
          exact ih (p + 1) (by omega) (by omega) q6
        · rw [show ((p : Nat) : Int).toNat = p by omega, sI_sI, sI_id] at e2
          rw [e2]
          refine ⟨fun c => ⟨by omega, fun x5 e5 _ => ⟨rfl, rfl, rfl, rfl, by omega, rfl, ?_⟩⟩, fun c => ⟨by omega, by omega, ?_⟩⟩
          · rw [if_neg (by omega)] at k; exact k
          · rw [if_pos c] at k; exact k
      | succ n ih2 =>
        intro q z hq
        have e255 : ((255 - q : Nat) : Int) = 255 - (q : Int) := by omega
        refine vc_X11_repair_83 o i V en p _ _ _ (sI g 344 p z) hS hd (fun _ _ _ _ _ _ => False) (fun _ _ _ _ _ _ w => w.elim) (fun y1 y2 y3 y5 y6 y7 y8 y9 g' => y1 = o ∧ y2 = (i : Int) ∧ y3 = V ∧ y5 = en ∧ y6 = (p : Int) ∧ y7 = gI g 344 p ∧ y8 = dnB (rpP (gI g 356 i) (gI g 344) (gI g 358 i) (gI g 359 i) V p) (q + 1) ∧ y9 = 255 - ((q + 1 : Nat) : Int) ∧ g' = sI g 344 p (255 - (q : Int))) ?_ ⟨fun c => by omega, fun _ => ⟨by omega, fun h7 e7 => ?_⟩⟩
        · rintro _ _ _ _ _ _ _ _ _ ⟨q0, q1, q2, q3, q4, q5, q6, q7, q8⟩
          rw [q0, q1, q2, q3, q4, q5, q6, q7, q8]
          exact ih2 (q + 1) _ (by omega)
        · rw [show ((p : Nat) : Int).toNat = p by omega, sI_sI] at e7
          have sh : zSh h7 := by rw [e7]; exact hS
          have f7 : ∀ b j, b ≠ 344 → gI h7 b j = gI g b j := fun b j hb => by rw [e7, gI_sI, if_neg (fun w => hb w.1)]
          have l7 : gI h7 344 200 = gI g 344 200 := by rw [e7, gI_sI, if_neg (by omega)]
          have eE : mE h7 i = ckX (gI g 356 i) (zup (gI g 344) p ((255 - q : Nat) : Int)) (gI g 358 i) (gI g 359 i) := by
            unfold mE
            rw [f7 356 i (by omega), f7 358 i (by omega), f7 359 i (by omega)]
            refine ckX_congr c2 (fun j _ _ => ?_)
            rw [e7, gI_sI]
            unfold zup
            by_cases w : j = p
            · rw [if_pos ⟨rfl, w⟩, if_pos w, e255]
            · rw [if_neg (fun z => w z.2), if_neg w]
          refine sp_expectedOf (by omega) sh (by rw [e7]; exact mdOk_b o8 (by omega) (by omega) (by omega)) hi (by unfold mCk; rw [f7 356 i (by omega), f7 358 i (by omega), f7 359 i (by omega), l7]; exact ck0) (qI_i ⟨sh, fun w => ⟨by omega, fun x14 e14 _ => ⟨rfl, rfl, rfl, rfl, rfl, rfl, ?_, by omega, e7⟩⟩, fun w => ⟨by omega, fun x16 e16 _ => ⟨rfl, rfl, rfl, rfl, rfl, rfl, ?_, by omega, e7⟩⟩⟩)
          · rw [dnB, if_neg (fun z => w (by rw [eE]; exact of_decide_eq_true z))]
          · rw [dnB, if_pos (by unfold rpP; exact decide_eq_true (by rw [← eE]; exact w)), e255]
    refine vc_X11_repair_59 o i V en p g hS hd (fun y1 y2 y3 y5 y6 y7 y8 y9 g' => y1 = o ∧ y2 = (i : Int) ∧ y3 = V ∧ y5 = en ∧ y6 = (p : Int) ∧ y7 = gI g 344 p ∧ y8 = dnB (rpP (gI g 356 i) (gI g 344) (gI g 358 i) (gI g 359 i) V p) 0 ∧ y9 = 255 - ((0 : Nat) : Int) ∧ g' = sI g 344 p (gI g 344 p)) ?_ ⟨fun c => by omega, fun c => ⟨by omega, fun x2 e2 _ => ⟨rfl, rfl, rfl, rfl, rfl, ?_, rfl, by omega, ?_⟩⟩⟩
    · rintro _ _ _ _ _ _ _ _ _ ⟨q0, q1, q2, q3, q4, q5, q6, q7, q8⟩
      rw [q0, q1, q2, q3, q4, q5, q6, q7, q8]
      exact inner 256 0 _ rfl
    · rw [e2, show ((p : Nat) : Int).toNat = p by omega]
    · exact (sI_id g 344 p).symm
theorem ym_repair {o i : Int} (hd : 6 ≤ d) (x : MS h s) (k : ∀ g, MS g s → mcF h g → Q (some (vI (rRep s o i))) g) : wpN G d M_X11_repair 0 (zar 0 [vR 343, vI o, vI i]) [] h Q := by
  refine vc_X11_repair_0 o i h x.1.1 hd (fun y1 y2 y3 y5 y6 g => y1 = o ∧ y2 = ((i.toNat : Nat) : Int) ∧ hF s o i ∧ MS g s ∧ mcF h g ∧ mLd g (yL s o) ∧ mWrong g i.toNat ∧ y3 = mV g i.toNat ∧ y5 = rpE (gI g 358 i.toNat) (gI g 359 i.toNat) ∧ y6 = gI g 358 i.toNat) ?_ (ym_hasF (by omega) x (fun g nf xg cf => qI_i ⟨xg.1.1, fun w2 => absurd rfl w2, fun _ => ?_⟩) (fun g f xg cf L => qI_i ⟨xg.1.1, fun _ => ?_, fun w2 => absurd w2 (by omega)⟩))
  · rintro _ _ _ _ _ g ⟨q0, q1, f, xg, cf, L, wr, q2, q3, q4⟩
    have f0 := f
    obtain ⟨op, i0, i1⟩ := f
    obtain ⟨a1, a2, a3, a4, a5, a6, a7⟩ := ym_fd xg L op (i := i.toNat) (by omega)
    obtain ⟨ls, lb, _⟩ := MS_c xg
    have ck : mCk g i.toNat := by
      have := wr.1
      rcases a2.2.1 with w | w | w
      · omega
      · omega
      · exact w
    have ck0 := ck
    obtain ⟨c1, c2, c3, c4⟩ := ck
    have eb : gI g 358 i.toNat ≤ rpE (gI g 358 i.toNat) (gI g 359 i.toNat) ∧ rpE (gI g 358 i.toNat) (gI g 359 i.toNat) ≤ gI g 359 i.toNat := by unfold rpE; split <;> omega
    have e := rRep_y a1 f0
    have wr2 : fdW (sB s) (mFl g i.toNat) = true := by
      rw [fdWi, ← a3]
      exact ⟨wr.1, by rw [← a4 wr.1]; exact wr.2⟩
    unfold rpD at e
    rw [if_pos wr2, ← a3] at e
    have e2 : rRep s o i = rpX (gI g 356 i.toNat) (gI g 344) (gI g 358 i.toNat) (gI g 359 i.toNat) (mV g i.toNat) := by
      rw [e]
      refine rpX_congr c2 (fun j hj => ?_)
      have hj : (j : Int) < gI g 359 i.toNat := hj
      have q := lst_tg (f := gI g 344) (n := gI g 344 200) (i := (j : Int)) (by omega) (by omega)
      rw [← lb] at q
      exact q
    rw [e2] at k
    rw [q0, q1, q2, q3, q4]
    have lp := ym_rep_loop (G := G) (Q := Q) (o := o) (V := mV g i.toNat) hd xg.1.1 (MS_8 xg).1 a7 ck0 eb.2 (rpE (gI g 358 i.toNat) (gI g 359 i.toNat) - gI g 358 i.toNat).toNat (gI g 358 i.toNat).toNat (by omega) (by omega) (k g xg cf)
    rw [show (((gI g 358 i.toNat).toNat : Nat) : Int) = gI g 358 i.toNat by omega] at lp
    exact lp
  · have e : rRep s o i = -1001 := cI_n nf
    rw [e] at k; exact k g xg cf
  · have f0 := f
    obtain ⟨op, i0, i1⟩ := f
    obtain ⟨a1, a2, a3, a4, a5, a6, a7⟩ := ym_fd xg L op (i := i.toNat) (by omega)
    have ei : ((i.toNat : Nat) : Int) = i := by omega
    rw [show zar 0 [vR 343, vI i] = zar 0 [vR 343, vI ((i.toNat : Nat) : Int)] by rw [ei]]
    refine sp_mWrong (by omega) xg.1.1 (MS_8 xg).1 a7 a2 (fun w => qI_i ⟨xg.1.1, fun _ => sp_valueOf (by omega) xg.1.1 (MS_8 xg).1 a7 a2.1 a2.2.2 (fun r er => qL_i ⟨xg.1.1, ?_⟩), fun z => absurd z (by omega)⟩) (fun w => qI_i ⟨xg.1.1, fun z => absurd rfl z, fun _ => ?_⟩)
    · have ck : mCk g i.toNat := by
        have := w.1
        rcases a2.2.1 with w | w | w
        · omega
        · omega
        · exact w
      obtain ⟨c1, c2, c3, c4⟩ := ck
      have l2 : gI g 344 200 ≤ 200 := (MS_8 xg).1.1.2
      refine ⟨by omega, by omega, by omega, sp_less xg.1.1 (fun r15 er15 => qI_i ⟨xg.1.1, by omega, fun x19 e19 _ => ⟨rfl, ei.symm, f0, xg, cf, L, w, er, ?_, e19⟩⟩)⟩
      unfold rpE; split <;> omega
    · have e := rRep_y a1 f0
      have nw : ¬ fdW (sB s) (mFl g i.toNat) = true := fun z => by
        rw [fdWi, ← a3] at z
        exact w ⟨z.1, by rw [a4 z.1]; exact z.2⟩
      unfold rpD at e
      rw [if_neg nw] at e
      rw [e] at k
      exact k g xg cf
end REPB
