/-! rounds of updates, by the model -/
def mTs (h : zHp) (Ts : Nat → List (List Int)) : Prop := ∀ t, t < 4 → mTr h t (Ts t) ∧ tOk (Ts t)
def mLd (h : zHp) (L : List (List Int × List Int) × (Int × Int)) : Prop := L = (mFs h, (gI h 343 32, gI h 343 33)) ∧ 0 ≤ gI h 343 31
/-- what rounds of the model change -/
def mRf : Nat → Nat → Prop := fun b j => mLf b j ∨ b = 344
section MROUND
variable {G : zG} {d : Nat} {Q : Option zV → zHp → Prop} {h : zHp} {Ts : Nat → List (List Int)} {D : List Int × List (Int × Int)}
theorem mTs_F {P : Nat → Nat → Prop} {h' : zHp} (F : zF4 P h h') (p1 : ∀ j, ¬ P 351 j) (p2 : ∀ j, ¬ P 352 j) (x : mTs h Ts) : mTs h' Ts := fun t ht => ⟨mTr_F F p1 p2 (x t ht).1, (x t ht).2⟩
theorem mTs_L {h' : zHp} (F : zF4 mLf h h') (x : mTs h Ts) : mTs h' Ts := mTs_F F mLf_351 mLf_352 x
theorem mRf_351 : ∀ j, ¬ mRf 351 j := by rintro j (w | w); exact mLf_351 j w; omega
theorem mRf_352 : ∀ j, ¬ mRf 352 j := by rintro j (w | w); exact mLf_352 j w; omega
theorem dvOk_m (k : mdOk h 344 0) : dvOk (mv h 344 0) := by
  have l := bM_len k
  have l2 : gI h 344 200 ≤ 200 := k.1.2
  have lb : ((mv h 344 0).1.length : Int) = gI h 344 200 := l
  refine ⟨by omega, byB_bM k, by simp [mv, mOv], fun o ho => ?_⟩
  have e : ovA (mv h 344 0) o = if gI h 344 (201 + 3 * o) = 1 then (gI h 344 (202 + 3 * o), gI h 344 (203 + 3 * o)) else (-1, 0) := by
    have := mOv_at (h := h) (a := 344) (b := 0) ho
    rw [Nat.zero_add, Nat.zero_add, Nat.zero_add] at this
    exact this
  rw [e]
  by_cases q : gI h 344 (201 + 3 * o) = 1
  · rw [if_pos q]
    have z := k.2.2 o ho (by rw [Nat.zero_add]; exact q)
    rw [Nat.zero_add, Nat.zero_add, Nat.zero_add] at z
    exact Or.inr ⟨z.1, z.2.1, by show gI h 344 (203 + 3 * o) ≤ _; rw [lb]; exact z.2.2⟩
  · rw [if_neg q]; exact Or.inl rfl
theorem ovA_m {o : Nat} (ho : o < 4) : ovA (mv h 344 0) o = if gI h 344 (201 + 3 * o) = 1 then (gI h 344 (202 + 3 * o), gI h 344 (203 + 3 * o)) else (-1, 0) := by
  have := mOv_at (h := h) (a := 344) (b := 0) ho
  rw [Nat.zero_add, Nat.zero_add, Nat.zero_add] at this
  exact this
theorem mHas_P {o : Int} (h8 : mdOk h 344 0) (eD : mv h 344 0 = D) : (mHas h o = 1 ↔ ovP D o) ∧ (mHas h o = 0 ∨ mHas h o = 1) := by
  refine ⟨⟨fun e => ?_, fun w => ?_⟩, by unfold mHas; split <;> simp⟩
  · unfold mHas at e
    split at e
    · rename_i q
      have ho : o.toNat < 4 := by omega
      refine ⟨q.1, by omega, ?_⟩
      rw [← eD, ovA_m ho, if_pos (by rw [← q.2.2]; congr 1; omega)]
      have z := h8.2.2 o.toNat ho (by rw [Nat.zero_add, ← q.2.2]; congr 1; omega)
      rw [Nat.zero_add, Nat.zero_add] at z
      show gI h 344 (202 + 3 * o.toNat) ≠ -1
      omega
    · omega
  · obtain ⟨w1, w2, w3⟩ := w
    have ho : o.toNat < 4 := by omega
    unfold mHas
    rw [if_pos]
    refine ⟨w1, by omega, ?_⟩
    rw [← eD, ovA_m ho] at w3
    by_cases q : gI h 344 (201 + 3 * o.toNat) = 1
    · rw [← q]; congr 1; omega
    · rw [if_neg q] at w3; exact absurd rfl w3
theorem sp_mlay {o : Nat} (hd : 4 ≤ d) (hS : zSh h) (h8 : mdOk h 344 0) (eD : mv h 344 0 = D) (xt : mTs h Ts) (op : ovP D (o : Int))
    (k : ∀ h', zSh h' → zF4 mLf h h' → mLd h' (layD Ts D o) → Q none h') : wpN G d M_X11_laysOut 0 (zar 0 [vR 343, vI (o : Int)]) [] h Q := by
  have ho : o < 4 := by have := op.2.1; omega
  have op3 := op.2.2
  rw [show (o : Int).toNat = o by omega, ← eD, ovA_m ho] at op3
  have q : gI h 344 (201 + 3 * o) = 1 := by
    by_cases q : gI h 344 (201 + 3 * o) = 1
    · exact q
    · rw [if_neg q] at op3; exact absurd rfl op3
  have oa : ovA D o = (gI h 344 (202 + 3 * o), gI h 344 (203 + 3 * o)) := by rw [← eD, ovA_m ho, if_pos q]
  have z := h8.2.2 o ho (by rw [Nat.zero_add]; exact q)
  rw [Nat.zero_add, Nat.zero_add, Nat.zero_add] at z
  have l2 : gI h 344 200 ≤ 200 := h8.1.2
  obtain ⟨t1, t2⟩ := xt (gI h 344 (202 + 3 * o)).toNat (by omega)
  refine sp_laysOut (t := (gI h 344 (202 + 3 * o)).toNat) hd hS h8 ho (by omega) (by omega) rfl z.2.1 (by omega) t2 t1 rfl (fun h' s' F L p => k h' s' F ⟨?_, p⟩)
  unfold layD
  rw [oa, show D.1 = bM h by rw [← eD]; rfl]
  exact L
theorem mfd {bs : List Int} {F : List (List Int × List Int)} {i : Nat} (h8 : mdOk h 344 0) (eb : bM h = bs) (eF : mFs h = F) (p : 0 ≤ gI h 343 31) (hF : ∀ fd ∈ F, fdOk bs.length fd) (hi : i < F.length) : F[i]? = some (mFl h i) ∧ mfOk h i ∧ mV h i = fdV bs (mFl h i) ∧ (2 ≤ gI h 356 i → mE h i = fdX bs (mFl h i)) ∧ fdOk bs.length (mFl h i) ∧ (1 ≤ gI h 360 i ∧ gI h 360 i ≤ 4) := by
  have l := bM_len h8
  rw [eb] at l
  have hl : F.length = (gI h 343 31).toNat := by rw [← eF, mFs_len]
  have g : F[i]? = some (mFl h i) := by rw [← eF, mFs, List.getElem?_map, List.getElem?_range (by omega)]; rfl
  have m : mFl h i ∈ F := List.mem_of_getElem? g
  have ok := hF _ m
  have tgb : ∀ j : Nat, (j : Int) < gI h 344 200 → tg bs j = gI h 344 j := fun j hj => by rw [← eb]; exact bM_tgn hj
  obtain ⟨a1, ⟨a2, a3⟩, a4, ⟨a5, a6⟩, a7⟩ := ok
  have a1 : fSz (gI h 355 i) := a1
  have a2 : 0 ≤ gI h 354 i := a2
  have a3 : gI h 354 i + gI h 355 i ≤ bs.length := a3
  have a5 : 1 ≤ gI h 360 i := a5
  have a6 : gI h 360 i ≤ 4 := a6
  have a4 : ((gI h 356 i = 0 ∨ gI h 356 i = 1) ∧ (gI h 357 i = 0 ∨ gI h 357 i = 1)) ∨ (((gI h 356 i = 2 ∧ gI h 355 i = 1) ∨ ((gI h 356 i = 3 ∨ gI h 356 i = 4) ∧ gI h 355 i = 2)) ∧ gI h 357 i = 0 ∧ 0 ≤ gI h 358 i ∧ gI h 358 i ≤ gI h 359 i ∧ gI h 359 i ≤ gI h 354 i) := a4
  have sz : 1 ≤ gI h 355 i := by rcases a1 with w | w | w <;> omega
  have mf : mfOk h i := by
    refine ⟨⟨a1, a2, by omega⟩, ?_, ?_⟩
    · rcases a4 with ⟨w | w, _⟩ | ⟨w, w2, w3, w4, w5⟩
      · exact Or.inl w
      · exact Or.inr (Or.inl w)
      · exact Or.inr (Or.inr ⟨by omega, w3, w4, by omega⟩)
    · rcases a4 with ⟨_, w⟩ | ⟨_, w, _⟩
      · exact w
      · exact Or.inl w
  refine ⟨g, mf, ?_, fun k2 => ?_, hF _ m, a5, a6⟩
  · show fVal (gI h 344) _ _ _ _ = fVal (tg bs) (gI h 354 i) (gI h 355 i) (gI h 356 i) (gI h 357 i)
    exact fVal_congr a2 (by omega) (fun j hj hj2 => (tgb j (by omega)).symm)
  · have ck : 0 ≤ gI h 358 i ∧ gI h 358 i ≤ gI h 359 i ∧ gI h 359 i ≤ gI h 354 i := by
      rcases a4 with ⟨w, _⟩ | ⟨_, _, w⟩
      · omega
      · exact w
    show ckX _ (gI h 344) _ _ = ckX (gI h 356 i) (tg bs) (gI h 358 i) (gI h 359 i)
    exact ckX_congr ck.1 (fun j hj hj2 => (tgb j (by omega)).symm)
/-- a field put by the model -/
theorem mput {h' : zHp} {bs : List Int} {s sz lit v : Int} (h8 : mdOk h 344 0) (eb : bM h = bs) (hs : fSz sz) (s0 : 0 ≤ s) (s1 : s + sz ≤ gI h 344 200) (F : zF4 m344 h h') (e : ∀ j : Nat, gI h' 344 j = wrF (gI h 344) s sz lit v sz.toNat j) : mdOk h' 344 0 ∧ mv h' 344 0 = (wrL bs s sz lit v, (mv h 344 0).2) := by
  have l2 : gI h 344 200 ≤ 200 := h8.1.2
  have hi : ∀ j : Nat, 200 ≤ j → gI h' 344 j = gI h 344 j := fun j hj => by
    rw [e]
    have q : ∀ k : Nat, (k : Int) ≤ sz → wrF (gI h 344) s sz lit v k j = gI h 344 j := by
      intro k
      induction k with
      | zero => intro _; rfl
      | succ k ih =>
        intro hk
        rw [wrF, if_neg, ih (by omega)]
        have : wrP s sz lit k < gI h 344 200 := by unfold wrP; split <;> omega
        omega
    exact q _ (by rcases hs with w | w | w <;> omega)
  have z : ∀ a b : Nat, 0 + a + b = a + b := fun a b => by omega
  refine ⟨⟨?_, fun j hj => ?_, fun o ho => ?_⟩, ?_⟩
  · rw [hi _ (by omega)]; exact h8.1
  · rw [Nat.zero_add, e]; exact wrF_rng (by have := h8.2.1 j hj; rw [Nat.zero_add] at this; exact this) _
  · rw [hi _ (by omega), hi _ (by omega), hi _ (by omega), hi _ (by omega)]; exact h8.2.2 o ho
  · have e1 : (mv h' 344 0).1 = wrL bs s sz lit v := by
      rw [← eb, bM_def]
      have : (mv h' 344 0).1 = lst (gI h' 344) (gI h' 344 200) := bM_def
      rw [this, ← wrF_lst h8.1.1]
      exact lst_eq (hi 200 (by omega)) (fun j _ => e j)
    have e2 : (mv h' 344 0).2 = (mv h 344 0).2 := by
      show mOv h' 344 0 = mOv h 344 0
      unfold mOv
      refine List.map_congr_left (fun o _ => ?_)
      rw [hi _ (by omega), hi _ (by omega), hi _ (by omega)]
    exact Prod.ext e1 e2
theorem m344_31 {b j : Nat} (hb : b ≠ 344) : ¬ m344 b j := fun w => hb w
theorem sp_rounds (hd : 5 ≤ d) (hS : zSh h) (h8 : mdOk h 344 0) (eD : mv h 344 0 = D) (xt : mTs h Ts)
    (k : ∀ h', zSh h' → zF4 mRf h h' → mdOk h' 344 0 → mv h' 344 0 = (rndD Ts D).1 → Q (some (vI (if (rndD Ts D).2 = true then 1 else 0))) h') : wpN G d M_X11_rounds 0 (zar 0 [vR 343]) [] h Q := by
  have hD : dvOk D := by rw [← eD]; exact dvOk_m h8
  have hT : ∀ t, t < 4 → tOk (Ts t) := fun t ht => (xt t ht).2
  have loop : ∀ (m o : Nat) (g : zHp), o + m = 4 → zSh g → zF4 mRf h g → mdOk g 344 0 → mv g 344 0 = (rndO Ts D o).1 → wpN G d M_X11_rounds 4 [(0, vR 343), (1, vI (if (rndO Ts D o).2 = true then 1 else 0)), (2, vI (o : Int))] [] g Q := by
    intro m
    induction m with
    | zero =>
      intro o g ho sg F g8 eg
      have e4 : o = 4 := by omega
      rw [e4] at eg ⊢
      exact vc_X11_rounds_4 _ _ g sg hd (fun _ _ _ => False) (fun _ _ _ w => w.elim) (fun _ _ _ _ => False) (fun _ _ _ _ w => w.elim) ⟨fun _ => ⟨by split <;> simp, k g sg F g8 eg⟩, fun c => by omega⟩
    | succ m ih =>
      intro o g ho sg F g8 eg
      have xg : mTs g Ts := mTs_F F mRf_351 mRf_352 xt
      obtain ⟨u1, u2, u3⟩ := rndO_ok (Ts := Ts) hD o
      obtain ⟨hp1, hp2⟩ := mHas_P (o := (o : Int)) g8 eg
      -- the fields of overlay o
      have inner : ∀ (L : List (List Int × List Int)) (m2 i : Nat) (g2 : zHp) (b : List Int) (ch : Bool), L = (layD Ts (rndO Ts D o).1 o).1 → (ovA (rndO Ts D o).1 o).1 ≠ -1 → i + m2 = L.length → zSh g2 → zF4 mRf h g2 → mdOk g2 344 0 → mv g2 344 0 = (b, (rndO Ts D o).1.2) → b.length = (rndO Ts D o).1.1.length → mFs g2 = L → 0 ≤ gI g2 343 31 → (upFs L (rndO Ts D o).1.1).1 = (upFs (L.drop i) b).1 → ((rndO Ts D o).2 || (upFs L (rndO Ts D o).1.1).2) = (ch || (upFs (L.drop i) b).2) → wpN G d M_X11_rounds 24 [(0, vR 343), (1, vI (if ch = true then 1 else 0)), (2, vI (o : Int)), (3, vI (i : Int))] [] g2 Q := by
        intro L m2
        induction m2 with
        | zero =>
          intro i g2 b ch eL op3 hi s2 F2 g28 e2 lb fs p31 e1 ec
          have hl : L.length = (gI g2 343 31).toNat := by rw [← fs, mFs_len]
          have dn : L.drop i = [] := List.drop_eq_nil_of_le (by omega)
          rw [dn] at e1 ec
          have en : rndO Ts D (o + 1) = (((upFs L (rndO Ts D o).1.1).1, (rndO Ts D o).1.2), (rndO Ts D o).2 || (upFs L (rndO Ts D o).1.1).2) := by rw [rndO, if_pos op3, eL]
          refine vc_X11_rounds_24 _ o i g2 s2 hd (fun y1 y2 g' => y2 = ((o + 1 : Nat) : Int) ∧ wpN G d M_X11_rounds 4 [(0, vR 343), (1, vI y1), (2, vI ((o + 1 : Nat) : Int))] [] g' Q) ?_ (fun _ _ _ _ => False) (fun _ _ _ _ w => w.elim) ⟨fun _ => ⟨by omega, fun x2 ex2 _ => ⟨by omega, ?_⟩⟩, fun c => by omega⟩
          · rintro _ _ _ ⟨z0, z1⟩
            rw [z0]
            exact z1
          · have q := ih (o + 1) g2 (by omega) s2 F2 g28 (by rw [en, e2, e1]; rfl)
            rw [en] at q
            simp only [ec, upFs, Bool.or_false] at q
            exact q
        | succ m2 ih2 =>
          intro i g2 b ch eL op3 hi s2 F2 g28 e2 lb fs p31 e1 ec
          have hl : L.length = (gI g2 343 31).toNat := by rw [← fs, mFs_len]
          obtain ⟨l1, l2⟩ := layD_ok hT u3 (show o < 4 by omega) op3
          rw [← eL] at l1 l2
          have hF' : ∀ fd ∈ L, fdOk b.length fd := fun fd hfd => by rw [lb]; exact l2 fd hfd
          have eb : bM g2 = b := congrArg Prod.fst e2
          obtain ⟨q1, q2, q3, q4, q5, q6⟩ := mfd g28 eb fs p31 hF' (show i < L.length by omega)
          have dr : L.drop i = mFl g2 i :: L.drop (i + 1) := by
            obtain ⟨hx, he⟩ := List.getElem?_eq_some_iff.mp q1
            rw [List.drop_eq_getElem_cons hx, he]
          rw [dr, upFs] at e1 ec
          refine vc_X11_rounds_24 _ o i g2 s2 hd (fun _ _ _ => False) (fun _ _ _ w => w.elim) (fun y1 y2 y3 g' => y2 = (o : Int) ∧ y3 = ((i + 1 : Nat) : Int) ∧ wpN G d M_X11_rounds 24 [(0, vR 343), (1, vI y1), (2, vI (o : Int)), (3, vI ((i + 1 : Nat) : Int))] [] g' Q) ?_ ⟨fun c => by omega, fun c => ?_⟩
          · rintro _ _ _ _ ⟨z0, z1, z2⟩
            rw [z0, z1]
            exact z2
          · refine sp_mWrong (by omega) s2 g28 (by omega) q2 (fun w => qI_i ⟨s2, fun z => absurd z (by omega), fun _ => ?_⟩) (fun w => qI_i ⟨s2, fun _ => ⟨by omega, fun x9 e9 _ => ⟨rfl, by omega, ?_⟩⟩, fun z => absurd rfl z⟩)
            · have fw : fdW b (mFl g2 i) = true := fdW_iff.mpr ⟨w.1, by rw [← q3, ← q4 w.1]; exact w.2⟩
              have ck : mCk g2 i := by
                rcases q2.2.1 with z | z | z
                · have := w.1; omega
                · have := w.1; omega
                · exact z
              have er := mE_rng g28 ck
              rw [if_pos fw] at e1 ec
              refine sp_expectedOf (by omega) s2 g28 (by omega) ck (qI_i ⟨s2, sp_puts s2 g28 (by omega) q2.1 q2.2.2 ⟨by omega, by omega⟩ (fun g3 s3 F3 e3 => qV_i ⟨s3, by omega, fun x19 e19 _ => ⟨rfl, by omega, ?_⟩⟩)⟩)
              obtain ⟨y1, y2, y3⟩ := q2.1
              obtain ⟨X2, X3⟩ := mput g28 eb y1 y2 y3 F3 e3
              have fs3 : mFs g3 = L := by
                rw [← fs]
                exact mFs_I (F3.I _ _ (m344_31 (by omega))) (fun b j b1 b2 => F3.I _ _ (m344_31 (by omega)))
              refine ih2 (i + 1) g3 _ true eL op3 (by omega) s3 (F2.tr (F3.mono (fun b j w => Or.inr w))) X2 (by rw [X3, e2]) (by rw [wrL_len, lb]) fs3 (by rw [F3.I _ _ (m344_31 (by omega))]; exact p31) ?_ ?_
              · rw [e1, q4 w.1]; rfl
              · rw [ec]; simp
            · have fw : ¬ fdW b (mFl g2 i) = true := fun z => by
                have z2 := fdW_iff.mp z
                have k2 : 2 ≤ gI g2 356 i := z2.1
                exact w ⟨k2, by rw [q3, q4 k2]; exact z2.2⟩
              rw [if_neg fw] at e1 ec
              exact ih2 (i + 1) g2 b ch eL op3 (by omega) s2 F2 g28 e2 lb fs p31 e1 ec
      refine vc_X11_rounds_4 _ o g sg hd (fun y1 y2 g' => y2 = ((o + 1 : Nat) : Int) ∧ wpN G d M_X11_rounds 4 [(0, vR 343), (1, vI y1), (2, vI ((o + 1 : Nat) : Int))] [] g' Q) ?_ (fun y1 y2 y3 g' => y2 = (o : Int) ∧ y3 = ((0 : Nat) : Int) ∧ wpN G d M_X11_rounds 24 [(0, vR 343), (1, vI y1), (2, vI (o : Int)), (3, vI ((0 : Nat) : Int))] [] g' Q) ?_ ⟨fun c => by omega, fun c => ?_⟩
      · rintro _ _ _ ⟨z0, z1⟩
        rw [z0]
        exact z1
      · rintro _ _ _ _ ⟨z0, z1, z2⟩
        rw [z0, z1]
        exact z2
      · refine sp_isPresent (by omega) sg (fun r er => qI_i ⟨sg, fun z => ⟨by omega, fun x7 e7 _ => ⟨by omega, ?_⟩⟩, fun z => ?_⟩)
        · have np : ¬ ovP (rndO Ts D o).1 (o : Int) := fun w => by have := hp1.mpr w; omega
          have en : rndO Ts D (o + 1) = rndO Ts D o := by
            rw [rndO, if_neg]
            intro w
            exact np ⟨by omega, by omega, by rw [show (o : Int).toNat = o by omega]; exact w⟩
          have q := ih (o + 1) g (by omega) sg F g8 (by rw [en]; exact eg)
          rw [en] at q
          exact q
        · have op : ovP (rndO Ts D o).1 (o : Int) := hp1.mp (by omega)
          have op3 := op.2.2
          rw [show (o : Int).toNat = o by omega] at op3
          refine sp_mlay (by omega) sg g8 eg xg op (fun g2 s2 F2 L2 => qV_i ⟨s2, fun _ => ⟨rfl, rfl, ?_⟩⟩)
          have fs : mFs g2 = (layD Ts (rndO Ts D o).1 o).1 := (congrArg Prod.fst L2.1).symm
          have e2 : mv g2 344 0 = (rndO Ts D o).1 := by rw [mv_cp g8 (zF4_mv F2 mLf_344), eg]
          exact inner _ _ 0 g2 _ (rndO Ts D o).2 rfl op3 (by rw [Nat.zero_add]) s2 (F.tr (F2.mono (fun b j w => Or.inl w))) (mdOk_F4 F2 mLf_344 g8) (by rw [e2]) rfl fs L2.2 rfl rfl
  refine vc_X11_rounds_0 h hS hd (fun y1 y2 g => y1 = 0 ∧ y2 = ((0 : Nat) : Int) ∧ g = h) ?_ (fun _ => ⟨rfl, rfl, rfl⟩)
  rintro _ _ _ ⟨z0, z1, z2⟩
  rw [z0, z1, z2]
  exact loop 4 0 h rfl hS zF4.rf h8 eD
end MROUND
