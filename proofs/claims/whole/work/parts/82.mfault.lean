/-! reading a template: the whole of it, by the model -/
def mCfg (h : zHp) (t : List Int) (c : zPC) : Prop := mLv h t c.1 ∧ gI h 352 4 = (c.2.2.length : Int) ∧ mRs h c.2.2 c.2.2.length ∧ gI h 343 19 = (c.2.1.length : Int) ∧ gI h 343 20 = kTop c.2.1
/-- the row of item k has the end and the count of a structure at its end -/
theorem mR4_cl {h h' : zHp} {T : List (List Int)} {i : Nat} {c : Int × (Int × Int)} (hi : i < T.length) (k5 : ti T i 0 = 5) (x : mR4 h T i) (e : ∀ f, f < 14 → f ≠ 7 → f ≠ 8 → f ≠ 9 → mi h' 4 i f = mi h 4 i f) (e9 : mi h' 4 i 9 = (T.length : Int)) (ct : ctM h' i c) : mR4 h' (tCl T i c) i := by
  obtain ⟨⟨m1, m2, m3, m4, m5, m6, m7, m8, m9, m10, m11, m12, m13⟩, m0⟩ := x
  have a : ∀ f, ti (tCl T i c) i f = (rw13 (ti T i 0) (ti T i 1) (ti T i 2) (ti T i 3) (ti T i 4) (T.length : Int) (ti T i 6) (ti T i 7) c.1 c.2.1 c.2.2 (ti T i 11) (ti T i 12)).getD f 0 := fun f => ti_cl hi
  have u0 := e 0 (by omega) (by omega) (by omega) (by omega)
  have u1 := e 1 (by omega) (by omega) (by omega) (by omega)
  have u2 := e 2 (by omega) (by omega) (by omega) (by omega)
  have u3 := e 3 (by omega) (by omega) (by omega) (by omega)
  have u13 := e 13 (by omega) (by omega) (by omega) (by omega)
  have b0 : ti (tCl T i c) i 0 = ti T i 0 := by rw [a]; rfl
  have b1 : ti (tCl T i c) i 1 = ti T i 1 := by rw [a]; rfl
  have b4 : ti (tCl T i c) i 4 = ti T i 4 := by rw [a]; rfl
  have b5 : ti (tCl T i c) i 5 = (T.length : Int) := by rw [a]; rfl
  have b6 : ti (tCl T i c) i 6 = ti T i 6 := by rw [a]; rfl
  have b7 : ti (tCl T i c) i 7 = ti T i 7 := by rw [a]; rfl
  have b8 : ti (tCl T i c) i 8 = c.1 := by rw [a]; rfl
  have b9 : ti (tCl T i c) i 9 = c.2.1 := by rw [a]; rfl
  have b10 : ti (tCl T i c) i 10 = c.2.2 := by rw [a]; rfl
  unfold mR4 mTr1
  rw [b0, b1, b4, b5, b6, b7, b8, b9, b10, k5]
  rw [k5] at m2 m6 m0
  exact ⟨⟨fun z => by omega, fun _ => by rw [u0]; exact m2 rfl, fun z => by omega, fun z => by omega, fun z => by omega, fun _ => by rw [u1]; exact m6 (by omega), by rw [u2, m7], by rw [u3, m8], ct.1, ct.2.1, ct.2.2, e9, by rw [u13, m13]⟩, fun z => by omega⟩
theorem mR4_cl_ne {h : zHp} {T : List (List Int)} {i k : Nat} {c : Int × (Int × Int)} (hk : k ≠ i) (x : mR4 h T k) : mR4 h (tCl T i c) k := by
  have e : ∀ f, ti (tCl T i c) k f = ti T k f := fun f => ti_cl_ne hk
  unfold mR4 mTr1
  simp only [e]
  exact x
section MFAULT
variable {G : zG} {d : Nat} {Q : Option zV → zHp → Prop} {h : zHp} {t : List Int} {p : Nat} {T : List (List Int)} {K : List Nat}
theorem mNx_of (pi : pInv T K) (hl : T.length < 24) (rs : mRs h T T.length) (e13 : mi h 4 T.length 13 = kTop K) : mNx h T T.length (kTop K) := by
  obtain ⟨i1, i2, i3, i4, i5⟩ := pi
  refine ⟨hl, Nat.le_refl _, rs, fun k hk => (i5 k hk).1, fun k => ?_, fun k hk => ?_, e13, ?_, ?_⟩
  · by_cases q : k < T.length
    · exact Or.inl (par_lt (i5 k q).2.2)
    · exact Or.inr (by omega)
  · rcases (i5 k hk).2.2.1 with w | w
    · omega
    · omega
  · cases K with
    | nil => show (-1 : Int) ≤ -1; omega
    | cons i K => show (-1 : Int) ≤ (i : Int); omega
  · cases K with
    | nil => show (-1 : Int) < _; omega
    | cons i K => have := i3.1; show (i : Int) < _; omega
theorem sp_readsItem (ht : byT t) (hd : 9 ≤ d) (hS : zSh h) (cf : mCfg h t (p, (K, T))) (pi : pInv T K)
    (k : itP Q h t T K (pItm t T (kTop K) K.length p)) : wpN G d M_X11_readsItem 0 (zar 0 [vR 343]) [] h Q := by
  obtain ⟨x, num, rs, dep, top⟩ := cf
  have x : mLv h t p := x
  have num : gI h 352 4 = (T.length : Int) := num
  have rs : mRs h T T.length := rs
  have dep : gI h 343 19 = (K.length : Int) := dep
  have top : gI h 343 20 = kTop K := top
  have hL := pi.2.1
  have l24 := pi.1
  have l := mt_len x.1 x.2.1
  have ep0 : T.length < 24 → pItm t T (kTop K) K.length p = pB (pCd t T (kTop K) T.length p) (fun x => pB (if tg t x.1 = 46 ∨ tg t x.1 = 64 then pGap t (kTop K) T.length x.1 x.2.1 x.2.2 else pB (pNm t T (kTop K) T.length x.1) (fun p2 => pTy t T (kTop K) K.length T.length p2 (tg t x.1) x.2.1 x.2.2)) (fun y => if y.2.2 = true then pB (pSg t 59 y.1) (fun p3 => .inr (p3, y.2)) else .inr y)) := fun hl => by unfold pItm; rw [if_neg (by omega)]
  -- behind the head of the row
  have main : ∀ g : zHp, T.length < 24 → zSh g → zF4 (mRi T.length sAll) h g → (∀ b j, b ≠ 351 → gI g b j = gI h b j) → (∀ f, f < 14 → mi g 4 T.length f = 0) → wpN G d M_X11_readsItem 61 [(0, vR 343), (1, vI (T.length : Int)), (2, vI (tg t p)), (3, vI 14)] [] g Q := by
    intro g hl sg F bg zg
    refine vc_X11_readsItem_61 T.length (tg t p) 14 g sg hd (fun _ _ _ _ => False) (fun _ _ _ _ w => w.elim) ⟨fun _ => ?_, fun w => by omega⟩
    refine sp_writes (f := 2) sAll sg hl (by omega) trivial (fun h3 s3 F3 v3 o3 b3 => qV_i ⟨s3, by omega, ?_⟩)
    refine sp_writes (f := 9) sAll s3 hl (by omega) trivial (fun h7 s7 F7 v7 o7 b7 => qV_i ⟨s7, ?_⟩)
    refine sp_writes (f := 13) sAll s7 hl (by omega) trivial (fun h11 s11 F11 v11 o11 b11 => qV_i ⟨s11, ?_⟩)
    have b11' : ∀ b j, b ≠ 351 → gI h11 b j = gI h b j := fun b j w => by rw [b11 _ _ w, b7 _ _ w, b3 _ _ w, bg _ _ w]
    have n11 : gI h11 352 4 = (T.length : Int) := by rw [b11' _ _ (by omega), num]
    rw [n11]
    refine ⟨by omega, fun h14 e14 => ?_⟩
    have FB : zF4 (mRi T.length sAll) h h11 := ((F.tr F3).tr F7).tr F11
    have F14 : zF4 mPr h h14 := by rw [e14]; exact (FRP FB).tr (zF4.sI (Or.inr (Or.inr ⟨rfl, rfl⟩)))
    have s14 := F14.Sh hS
    have o14 : ∀ b j, ¬ (b = 352 ∧ j = 4) → gI h14 b j = gI h11 b j := fun b j w => by rw [e14, gI_sI, if_neg w]
    have m14 : ∀ k f, mi h14 4 k f = mi h11 4 k f := fun k f => o14 _ _ (by omega)
    have x14 : mLv h14 t p := mLv_mv F14 x x.2.2.1 (by rw [o14 _ _ (by omega), b11' _ _ (by omega)]; exact x.2.2.2.1) (by rw [o14 _ _ (by omega), b11' _ _ (by omega)]; exact x.2.2.2.2)
    have r13 : mi h14 4 T.length 13 = kTop K := by rw [m14, v11, b7 _ _ (by omega), b3 _ _ (by omega), bg _ _ (by omega), top]
    have r9 : mi h14 4 T.length 9 = (T.length : Int) + 1 := by rw [m14, o11 _ 9 (by omega) (Or.inr (by omega)), v7]
    have r2 : mi h14 4 T.length 2 = -1 := by rw [m14, o11 _ 2 (by omega) (Or.inr (by omega)), o7 _ 2 (by omega) (Or.inr (by omega)), v3]
    have r0 : ∀ f, f < 14 → f ≠ 2 → f ≠ 9 → f ≠ 13 → mi h14 4 T.length f = 0 := fun f hf n2 n9 n13 => by rw [m14, o11 _ f hf (Or.inr n13), o7 _ f hf (Or.inr n9), o3 _ f hf (Or.inr n2), zg f hf]
    have rs14 : mRs h14 T T.length := fun k hk => mR4_mi (fun f hf => m14 k f) (mR_Ri FB rs k hk)
    have nx14 := mNx_of pi hl rs14 r13
    have d14 : gI h14 343 19 = (K.length : Int) := by rw [o14 _ _ (by omega), b11' _ _ (by omega), dep]
    have t14 : gI h14 343 20 = kTop K := by rw [o14 _ _ (by omega), b11' _ _ (by omega), top]
    have n14 : gI h14 352 4 = (T.length : Int) + 1 := by rw [e14, gI_sI, if_pos ⟨rfl, rfl⟩]
    have kF : ∀ (g2 : zHp) {X : Nat ⊕ (Nat × (List Int × Bool))}, zF4 mPr h g2 → itP Q h t T K X → itP Q g2 t T K X := fun g2 X F2 kk => ⟨fun h' p' r e s' F' x' m' a b c => kk.1 h' p' r e s' (F2.tr F') x' m' a b c, fun h' p' r e s' F' x' m' a b c => kk.2.1 h' p' r e s' (F2.tr F') x' m' a b c, fun h' f e s' F' d' => kk.2.2 h' f e s' (F2.tr F') d'⟩
    refine sp_takesL (by omega) s14 x14 (by omega) (fun h17 p17 e17 c63 s17 F17 x17 on17 => qI_i ⟨s17, fun w => absurd w (by omega), fun _ => ?_⟩) (fun _ n63 => qI_i ⟨s14, fun _ => ?_, fun w => absurd rfl w⟩)
    · have ep : p17 = bl t (p + 1) := by unfold pSg at e17; rw [if_pos c63] at e17; exact (Sum.inr.inj e17).symm
      have ec : pCd t T (kTop K) T.length p = pB (pRf t T (kTop K) T.length p17) (fun x => pB (pSg t 61 x.1) (fun p2 => pB (pNu t p2) (fun y => .inr (y.1, (x.2, y.2))))) := by unfold pCd; rw [if_pos c63, ← ep]
      have nx17 := mNx_Sc F17 nx14
      -- dead in the condition
      have fd : ∀ (g2 : zHp) (f : Nat) (z : Int), pCd t T (kTop K) T.length p = .inl f → zSh g2 → zF4 mPr h g2 → mDd g2 t f → mITb G d Q (T.length : Int) g2 := fun g2 f z ef s2 F2 d2 =>
        sp_mitD hd s2 d2 (fun h' s' F' d' => k.2.2 h' f (by rw [ep0 hl, pB_inl ef]) s' (F2.tr F') d')
      refine sp_intNamedL (by omega) s17 x17 nx17 (fun h91 y ey s91 F91 x91 => qI_i ⟨s91, ?_⟩) (fun h91 f z ey s91 F91 d91 => qI_i ⟨s91, ?_⟩)
      · refine sp_expectsL (by omega) s91 x91 (by omega) (fun h95 p2 e95 s95 F95 x95 => qV_i ⟨s95, ?_⟩) (fun h95 f e95 s95 F95 d95 => qV_i ⟨s95, ?_⟩)
        · refine sp_writes (f := 2) sAll s95 hl (by omega) trivial (fun h99 s99 F99 v99 o99 b99 => qV_i ⟨s99, fun w => absurd (mLv_W F99 b99 x95).2.2.2.2 w, fun _ => ?_⟩)
          have FC : zF4 (mRi T.length sAll) h14 h99 := (FSR ((F17.tr F91).tr F95)).tr F99
          refine sp_numberL (by omega) s99 (mLv_W F99 b99 x95) (fun h177 v ev s177 F177 x177 e17' => qI_i ⟨s177, ?_⟩) (fun h177 f ev s177 F177 d177 => qI_i ⟨s177, ?_⟩)
          · refine sp_writes (f := 3) sAll s177 hl (by omega) trivial (fun h181 s181 F181 v181 o181 b181 => qV_i ⟨s181, ?_⟩)
            have FD : zF4 (mRi T.length sAll) h14 h181 := (FC.tr (FSR F177)).tr F181
            have k3 := mK3_Ri FD
            have ev2 : pCd t T (kTop K) T.length p = .inr (v.1, (y.2, v.2)) := by rw [ec, pB_inr ey, pB_inr e95, pB_inr ev]
            have kk := k
            rw [ep0 hl, pB_inr ev2] at kk
            have oth : ∀ f, f < 14 → f ≠ 2 → f ≠ 3 → mi h181 4 T.length f = mi h14 4 T.length f := fun f hf n2 n3 => by rw [o181 _ f hf (Or.inr n3), mi_Sc F177, o99 _ f hf (Or.inr n2), mi_Sc ((F17.tr F91).tr F95)]
            refine sp_mitL (K := K) (cc := y.2) (cv := v.2) ht hd s181 (mLv_W F181 b181 x177) ⟨nx14.1, nx14.2.1, mR_Ri FD nx14.2.2.1, nx14.2.2.2.1, nx14.2.2.2.2.1, nx14.2.2.2.2.2.1, by rw [oth 13 (by omega) (by omega) (by omega)]; exact r13, nx14.2.2.2.2.2.2.2⟩ (fun f hf n2 n3 n9 n13 => by rw [oth f hf n2 n3, r0 f hf n2 n9 n13]) ?_ v181 (by rw [oth 9 (by omega) (by omega) (by omega), r9]) (by rw [k3.1, d14]) (by rw [k3.2.1, t14]) (by rw [k3.2.2, n14]) hL (kF h181 (F14.tr (FRP FD)) kk)
            rw [o181 _ 2 (by omega) (Or.inr (by omega)), mi_Sc F177, v99]
          · refine sp_writes (f := 3) sAll s177 hl (by omega) trivial (fun h181 s181 F181 v181 o181 b181 => qV_i ⟨s181, ?_⟩)
            exact fd h181 f 0 (by rw [ec, pB_inr ey, pB_inr e95, pB_inl ev]) s181 (F14.tr ((FRP FC).tr ((FSP F177).tr (FRP F181)))) (mDd_W F181 b181 d177)
        · refine sp_writes (f := 2) sAll s95 hl (by omega) trivial (fun h99 s99 F99 v99 o99 b99 => qV_i ⟨s99, fun _ => ?_, fun w => ?_⟩)
          · refine sp_writes (f := 3) sAll s99 hl (by omega) trivial (fun h104 s104 F104 v104 o104 b104 => qV_i ⟨s104, ?_⟩)
            exact fd h104 f 0 (by rw [ec, pB_inr ey, pB_inl e95]) s104 (F14.tr ((FSP ((F17.tr F91).tr F95)).tr ((FRP F99).tr (FRP F104)))) (mDd_W F104 b104 (mDd_W F99 b99 d95))
          · rw [(mDd_W F99 b99 d95).2.2.2] at w; omega
      · refine sp_expectsD (by omega) s91 d91 (fun h95 s95 F95 d95 => qV_i ⟨s95, ?_⟩)
        refine sp_writes (f := 2) sAll s95 hl (by omega) trivial (fun h99 s99 F99 v99 o99 b99 => qV_i ⟨s99, fun _ => ?_, fun w => ?_⟩)
        · refine sp_writes (f := 3) sAll s99 hl (by omega) trivial (fun h104 s104 F104 v104 o104 b104 => qV_i ⟨s104, ?_⟩)
          exact fd h104 f 0 (by rw [ec, pB_inl ey]) s104 (F14.tr ((FSP ((F17.tr F91).tr F95)).tr ((FRP F99).tr (FRP F104)))) (mDd_W F104 b104 (mDd_W F99 b99 d95))
        · rw [(mDd_W F99 b99 d95).2.2.2] at w; omega
    · have ec : pCd t T (kTop K) T.length p = .inr (p, (-1, 0)) := by unfold pCd; rw [if_neg n63]
      have kk := k
      rw [ep0 hl, pB_inr ec] at kk
      exact sp_mitL (K := K) (cc := -1) (cv := 0) ht hd s14 x14 nx14 (fun f hf n2 n3 n9 n13 => r0 f hf n2 n9 n13) r2 (r0 3 (by omega) (by omega) (by omega) (by omega)) r9 d14 t14 n14 hL (kF h14 F14 kk)
  -- the row is cleared
  have clr : ∀ (m y : Nat) (g : zHp), y + m = 14 → T.length < 24 → zSh g → zF4 (mRi T.length sAll) h g → (∀ b j, b ≠ 351 → gI g b j = gI h b j) → (∀ f, f < y → mi g 4 T.length f = 0) → wpN G d M_X11_readsItem 61 [(0, vR 343), (1, vI (T.length : Int)), (2, vI (tg t p)), (3, vI (y : Int))] [] g Q := by
    intro m
    induction m with
    | zero =>
      intro y g hy hl sg F bg zg
      have e : (y : Int) = 14 := by omega
      rw [e]
      exact main g hl sg F bg (fun f hf => zg f (by omega))
    | succ m ih =>
      intro y g hy hl sg F bg zg
      refine vc_X11_readsItem_61 T.length (tg t p) y g sg hd (fun y1 y2 y3 g' => y1 = (T.length : Int) ∧ y2 = tg t p ∧ y3 = ((y + 1 : Nat) : Int) ∧ wpN G d M_X11_readsItem 61 [(0, vR 343), (1, vI (T.length : Int)), (2, vI (tg t p)), (3, vI ((y + 1 : Nat) : Int))] [] g' Q) ?_ ⟨fun w => by omega, fun _ => ?_⟩
      · rintro _ _ _ _ ⟨z0, z1, z2, z3⟩
        rw [z0, z1, z2]
        exact z3
      · refine sp_writes (f := y) sAll sg hl (by omega) trivial (fun g2 s2 F2 v2 o2 b2 => qV_i ⟨s2, by omega, fun x257 e257 _ => ⟨rfl, rfl, by omega, ?_⟩⟩)
        refine ih (y + 1) g2 (by omega) hl s2 (F.tr F2) (fun b j w => by rw [b2 _ _ w, bg _ _ w]) (fun f hf => ?_)
        by_cases q : f = y
        · rw [q, v2]
        · rw [o2 _ f (by omega) (Or.inr q), zg f (by omega)]
  have bad : pItm t T (kTop K) K.length p = .inl p → wpN G (d - 1) M_X11_faults 0 (zar 0 [vR 343, vI (gI h 343 15)]) [] h (qV (fun h9 => zSh h9 ∧ Q none h9)) := fun e => sp_faultsL hS x x.2.2.2.1 (fun h' s' F d' => qV_i ⟨s', k.2.2 h' p e s' (FSP F) d'⟩)
  have start : T.length ≠ 24 → wpN G d M_X11_readsItem 61 [(0, vR 343), (1, vI (T.length : Int)), (2, vI (tg t p)), (3, vI ((0 : Nat) : Int))] [] h Q := fun n24 => clr 14 0 h rfl (by omega) hS zF4.rf (fun _ _ _ => rfl) (fun f hf => absurd hf (by omega))
  refine vc_X11_readsItem_0 h hS hd (fun y1 y2 y3 g => y1 = (T.length : Int) ∧ y2 = tg t p ∧ y3 = ((0 : Nat) : Int) ∧ g = h ∧ T.length ≠ 24) ?_ (fun x1 e1 => ?_)
  · rintro _ _ _ _ ⟨z0, z1, z2, z3, z4⟩
    rw [z0, z1, z2, z3]
    exact start z4
  · rw [num] at e1
    refine sp_nextL hS x (qI_i ⟨hS, fun c => bad ?_, fun n24 => ⟨fun _ _ => ⟨e1, rfl, rfl, rfl, by omega⟩, fun n63 => ⟨fun _ _ => ⟨e1, rfl, rfl, rfl, by omega⟩, fun n46 => ⟨fun _ _ => ⟨e1, rfl, rfl, rfl, by omega⟩, fun n64 => sp_in hS (fun r hr => qI_i ⟨hS, fun _ _ => ⟨e1, rfl, rfl, rfl, by omega⟩, fun z => bad ?_⟩)⟩⟩⟩⟩)
    · unfold pItm; rw [if_pos (by omega)]
    · have nm : isNmB (tg t p) = false := by
        cases hh : isNmB (tg t p) with
        | false => rfl
        | true =>
          have := isNmB_iff.mp hh
          have w1 := this.1
          have w2 := this.2
          rcases hr with w | w <;> omega
      have ec : pCd t T (kTop K) T.length p = .inr (p, (-1, 0)) := by unfold pCd; rw [if_neg n63]
      have en : pNm t T (kTop K) T.length p = .inl p := by unfold pNm; rw [if_neg (fun w => by rw [nm] at w; cases w.1)]
      rw [ep0 (by omega), pB_inr ec]
      show pB (if tg t p = 46 ∨ tg t p = 64 then _ else _) _ = _
      rw [if_neg (by omega), pB_inl en]
      rfl
theorem sp_closes {i : Nat} (hd : 6 ≤ d) (hS : zSh h) (cf : mCfg h t (p, (i :: K, T))) (pi : pInv T (i :: K)) (hc : tg t p = 125) (c0 : ti T i 8 = 0)
    (k1 : ∀ h' y, pClo t T i p = .inr y → zSh h' → zF4 mPr h h' → mCfg h' t (y.1, (K, y.2)) → Q none h') (k0 : ∀ h' f, pClo t T i p = .inl f → zSh h' → zF4 mPr h h' → mDd h' t f → Q none h') : wpN G d M_X11_closes 0 (zar 0 [vR 343]) [] h Q := by
  obtain ⟨x, num, rs, dep, top⟩ := cf
  have x : mLv h t p := x
  have num : gI h 352 4 = (T.length : Int) := num
  have rs : mRs h T T.length := rs
  have dep : gI h 343 19 = ((K.length + 1 : Nat) : Int) := dep
  have top : gI h 343 20 = (i : Int) := top
  obtain ⟨i1, i2, i3, i4, i5⟩ := pi
  have i2 : K.length + 1 ≤ 3 := i2
  have il := i3.1
  have k5 := i3.2.1
  have kt := i3.2.2.1
  have m13 : mi h 4 i 13 = ti T i 4 := (rs i il).1.2.2.2.2.2.2.2.2.2.2.2.2
  have ro := (i5 i il).2.1.2.1
  refine vc_X11_closes_0 h hS hd (sp_takesL (by omega) hS x (by omega) (fun h2 p2 e2 _ s2 F2 x2 on2 => qI_i ⟨s2, fun x5 e5 => ?_⟩) (fun _ ne => absurd hc ne))
  have ep : p2 = bl t (p + 1) := by unfold pSg at e2; rw [if_pos hc] at e2; exact (Sum.inr.inj e2).symm
  rw [on2 20 (by omega), top] at e5
  rw [on2 19 (by omega), dep, e5]
  refine ⟨by omega, fun h7 e7 => ?_⟩
  have o7 : ∀ b j, ¬ (b = 343 ∧ j = 19) → gI h7 b j = gI h2 b j := fun b j w => by rw [e7, gI_sI, if_neg w]
  have F7 : zF4 mPr h2 h7 := by rw [e7]; exact zF4.sI (Or.inl ⟨rfl, by omega, by omega⟩)
  have s7 := F7.Sh s2
  refine sp_readOf (f := 13) (by omega) s7 (by omega) (by omega) (qI_i ⟨s7, fun h13 e13 => ?_⟩)
  have v13 : mi h7 4 i 13 = kTop K := by rw [mi4, o7 _ _ (by omega), ← mi4, mi_Sc F2, m13, kt]
  rw [v13] at e13
  have o13 : ∀ b j, ¬ (b = 343 ∧ (j = 19 ∨ j = 20)) → gI h13 b j = gI h2 b j := fun b j w => by rw [e13, gI_sI, if_neg (by omega), o7 _ _ (by omega)]
  have F13 : zF4 mPr h h13 := by rw [e13]; exact ((FSP F2).tr F7).tr (zF4.sI (Or.inl ⟨rfl, by omega, by omega⟩))
  have s13 := F13.Sh hS
  have n13 : gI h13 352 4 = (T.length : Int) := by rw [o13 _ _ (by omega), F2.I _ _ (by rintro ⟨w, _⟩; omega), num]
  have m13' : ∀ k f, mi h13 4 k f = mi h 4 k f := fun k f => by rw [mi4, o13 _ _ (by omega), ← mi4, mi_Sc F2]
  rw [n13]
  refine sp_writes (f := 9) sAll s13 (by omega) (by omega) trivial (fun h16 s16 F16 v16 o16 b16 => qV_i ⟨s16, ?_⟩)
  have x13 : mLv h13 t p2 := mLv_mv F13 x x2.2.2.1 (by rw [o13 _ _ (by omega)]; exact x2.2.2.2.1) (by rw [o13 _ _ (by omega)]; exact x2.2.2.2.2)
  have x16 := mLv_W F16 b16 x13
  have r16 : ∀ k, k < T.length → k ≠ i → mR4 h16 T k := fun k hk hne => mR4_mi (fun f hf => by rw [o16 k f hf (Or.inl hne), m13']) (rs k hk)
  have nx : mNx h16 T i (ti T i 4) := by
    refine ⟨by omega, by omega, fun k hk => r16 k (by omega) (by omega), fun k hk => (i5 k hk).1, fun k => ?_, fun k hk => ?_, ?_, ?_, ?_⟩
    · by_cases q : k < T.length
      · exact Or.inl (par_lt (i5 k q).2.2)
      · exact Or.inr (by omega)
    · rcases (i5 k hk).2.2.1 with w | w <;> omega
    · rw [o16 i 13 (by omega) (Or.inr (by omega)), m13', m13]
    · rcases (i5 i il).2.2.1 with w | w <;> omega
    · exact par_lt (i5 i il).2.2
  have e7' : mi h16 4 i 7 = 0 := by
    rw [o16 i 7 (by omega) (Or.inr (by omega)), m13']
    exact (rs i il).1.2.2.2.2.2.2.2.2.1 c0
  have FA : zF4 mPr h h16 := F13.tr (FRP F16)
  have ecl : pClo t T i p = pB (pCt t T (ti T i 4) i p2) (fun y => pB (pSg t 59 y.1) (fun p3 => .inr (p3, tCl T i y.2))) := by unfold pClo; rw [← ep]
  refine sp_readsCountL (by omega) s16 x16 nx e7' (fun h20 y ey s20 F20 x20 ct => qV_i ⟨s20, ?_⟩) (fun h20 f ey s20 F20 d20 => qV_i ⟨s20, sp_expectsD (by omega) s20 d20 (fun h24 s24 F24 d24 => qV_i ⟨s24, k0 h24 f (by rw [ecl, pB_inl ey]) s24 ((FA.tr (FRP F20)).tr (FSP F24)) d24⟩)⟩)
  refine sp_expectsL (by omega) s20 x20 (by omega) (fun h24 p3 e24 s24 F24 x24 => qV_i ⟨s24, k1 h24 (p3, tCl T i y.2) (by rw [ecl, pB_inr ey, pB_inr e24]) s24 ((FA.tr (FRP F20)).tr (FSP F24)) ⟨x24, ?_, ?_, ?_, ?_⟩⟩) (fun h24 f e24 s24 F24 d24 => qV_i ⟨s24, k0 h24 f (by rw [ecl, pB_inr ey, pB_inl e24]) s24 ((FA.tr (FRP F20)).tr (FSP F24)) d24⟩)
  · show gI h24 352 4 = ((tCl T i y.2).length : Int)
    rw [tCl_len, F24.I _ _ (by rintro ⟨w, _⟩; omega), (mK3_Ri F20).2.2, b16 _ _ (by omega), n13]
  · show mRs h24 (tCl T i y.2) (tCl T i y.2).length
    refine mRs_Sc F24 (fun k hk => ?_)
    rw [tCl_len] at hk
    by_cases q : k = i
    · rw [q]
      refine mR4_cl (h := h) il k5 (rs i il) (fun f hf n7 n8 n9 => ?_) ?_ ct
      · rw [mi_Ri F20 hf (Or.inr (by unfold s78; omega)), o16 i f hf (Or.inr n9), m13']
      · rw [mi_Ri F20 (by omega) (Or.inr (by unfold s78; omega)), v16]
    · exact mR4_cl_ne q (mR4_mi (fun f hf => mi_Ri F20 hf (Or.inl q)) (r16 k hk q))
  · show gI h24 343 19 = (K.length : Int)
    rw [F24.I _ _ (by rintro ⟨_, _, w⟩; omega), (mK3_Ri F20).1, b16 _ _ (by omega), e13, gI_sI, if_neg (by omega), e7, gI_sI, if_pos ⟨rfl, rfl⟩]
    omega
  · show gI h24 343 20 = kTop K
    rw [F24.I _ _ (by rintro ⟨_, _, w⟩; omega), (mK3_Ri F20).2.1, b16 _ _ (by omega), e13, gI_sI, if_pos ⟨rfl, rfl⟩]
theorem pTy_st {q : Int} {dep i : Nat} {name cc cv : Int} {y : Nat × (List Int × Bool)} (h : pTy t T q dep i p name cc cv = .inr y) (hf : y.2.2 = false) : y.2.1.getD 8 0 = 0 := by
  unfold pTy at h
  split at h
  · obtain ⟨x, e1, h⟩ := pB_ok h
    obtain ⟨z, e2, h⟩ := pB_ok h
    have e3 := Sum.inr.inj h
    rw [← e3] at hf
    cases hf
  · split at h
    · split at h
      · cases h
      · have e3 := Sum.inr.inj h
        rw [← e3]
        rfl
    · split at h
      · obtain ⟨x, e1, h⟩ := pB_ok h
        have e3 := Sum.inr.inj h
        rw [← e3] at hf
        cases hf
      · split at h
        · obtain ⟨x, e1, h⟩ := pB_ok h
          have e3 := Sum.inr.inj h
          rw [← e3] at hf
          cases hf
        · split at h
          · obtain ⟨x, e1, h⟩ := pB_ok h
            have e3 := Sum.inr.inj h
            rw [← e3] at hf
            cases hf
          · cases h
theorem pItm_st {q : Int} {dep : Nat} {y : Nat × (List Int × Bool)} (h : pItm t T q dep p = .inr y) (hf : y.2.2 = false) : y.2.1.getD 8 0 = 0 := by
  unfold pItm at h
  split at h
  · cases h
  · obtain ⟨x, e1, h⟩ := pB_ok h
    obtain ⟨z, e2, h⟩ := pB_ok h
    split at h
    · rename_i ov
      obtain ⟨p3, e3, h⟩ := pB_ok h
      have e4 := Sum.inr.inj h
      rw [← e4] at hf
      have hf : z.2.2 = false := hf
      rw [ov] at hf
      cases hf
    · have e4 := Sum.inr.inj h
      rw [← e4] at hf ⊢
      split at e2
      · unfold pGap at e2
        obtain ⟨w, e3, e2⟩ := pB_ok e2
        split at e2
        · cases e2
        · have e5 := Sum.inr.inj e2
          rw [← e5] at hf
          cases hf
      · obtain ⟨p2, e3, e2⟩ := pB_ok e2
        exact pTy_st e2 hf
/-- the structures that are read have no count yet -/
def kC0 (T : List (List Int)) (K : List Nat) : Prop := ∀ x ∈ K, ti T x 8 = 0
theorem kC0_step {c c' : zPC} (pi : pInv c.2.2 c.2.1) (hk : kC0 c.2.2 c.2.1) (e : pStep t c = .inr c') : kC0 c'.2.2 c'.2.1 := by
  obtain ⟨p, K, T⟩ := c
  have km := kCh_mem pi.2.2.1
  have it : ∀ K, (∀ x ∈ K, x < T.length) → kC0 T K → ∀ y, pItm t T (kTop K) K.length p = .inr y → (if y.2.2 = true then (.inr (y.1, (K, T ++ [y.2.1])) : Nat ⊕ zPC) else .inr (y.1, (T.length :: K, T ++ [y.2.1]))) = .inr c' → kC0 c'.2.2 c'.2.1 := by
    intro K hl hk y e1 e2
    by_cases ov : y.2.2 = true
    · rw [if_pos ov] at e2
      have e3 := Sum.inr.inj e2
      rw [← e3]
      intro x hx
      show ti (T ++ [y.2.1]) x 8 = 0
      rw [ti_app (hl x hx)]
      exact hk x hx
    · rw [if_neg ov] at e2
      have e3 := Sum.inr.inj e2
      have ov' : y.2.2 = false := by cases hh : y.2.2 with | true => exact absurd hh ov | false => rfl
      rw [← e3]
      intro x hx
      show ti (T ++ [y.2.1]) x 8 = 0
      rcases List.mem_cons.mp hx with z | z
      · rw [z, ti_new]; exact pItm_st e1 ov'
      · rw [ti_app (hl x z)]; exact hk x z
  cases K with
  | nil =>
    obtain ⟨y, e1, e2⟩ := pB_ok (show pB (pItm t T (-1) 0 p) _ = .inr c' from e)
    exact it [] (fun x hx => absurd hx (by simp)) (fun x hx => absurd hx (by simp)) y e1 e2
  | cons i K =>
    rw [pStep] at e
    split at e
    · obtain ⟨y, e1, e2⟩ := pB_ok e
      have e3 := Sum.inr.inj e2
      unfold pClo at e1
      obtain ⟨z, e4, e1⟩ := pB_ok e1
      obtain ⟨p3, e5, e1⟩ := pB_ok e1
      have e6 := Sum.inr.inj e1
      rw [← e3, ← e6]
      intro x hx
      have lt := pi.2.2.1.2.2.2.1 x hx
      show ti (tCl T i z.2) x 8 = 0
      rw [ti_cl_ne (by omega)]
      exact hk x (List.mem_cons_of_mem _ hx)
    · obtain ⟨y, e1, e2⟩ := pB_ok e
      exact it (i :: K) (fun x hx => (km x hx).1) hk y e1 e2
theorem sp_mFault (ht : byT t) (hd : 10 ≤ d) (hS : zSh h) (e : tM h = t) (o : mtOk h)
    (k1 : ∀ h' T, pDn t (bl t 0, ([], [])) T → zSh h' → zF4 mPr h h' → gI h' 352 4 = (T.length : Int) → mRs h' T T.length → Q (some (vI (-1009))) h')
    (k0 : ∀ h' f, pFl t (bl t 0, ([], [])) f → zSh h' → zF4 mPr h h' → Q (some (vI (f : Int))) h') : wpN G d M_X11_templateFault 0 (zar 0 [vR 343]) [] h Q := by
  have l := mt_len e o
  have dead : ∀ (g : zHp) (f : Nat), pFl t (bl t 0, ([], [])) f → zSh g → zF4 mPr h g → mDd g t f → wpN G d M_X11_templateFault 33 [(0, vR 343)] [] g Q := fun g f fl sg F dg => by
    refine vc_X11_templateFault_33 g sg hd (fun _ => False) (fun _ w => w.elim) ⟨fun _ => ?_, fun w => by rw [dg.2.2.2] at w; omega⟩
    rw [dg.2.2.2]
    exact k0 g f fl sg F
  have loop : ∀ (m : Nat) (n : Nat) (c : zPC) (g : zHp), c.1 + m = t.length + 1 → pW t n (bl t 0, ([], [])) c → c.1 ≤ t.length → pInv c.2.2 c.2.1 → kC0 c.2.2 c.2.1 → mCfg g t c → zSh g → zF4 mPr h g → wpN G d M_X11_templateFault 33 [(0, vR 343)] [] g Q := by
    intro m
    induction m using Nat.strongRecOn with
    | _ m ih =>
    intro n c g hm w hp pi kc cf sg F
    obtain ⟨p, K, T⟩ := c
    have hm : p + m = t.length + 1 := hm
    have hp : p ≤ t.length := hp
    have pi : pInv T K := pi
    have x : mLv g t p := cf.1
    have dep : gI g 343 19 = (K.length : Int) := cf.2.2.2.1
    have lg := mt_len x.1 x.2.1
    have x15 := x.2.2.2.1
    -- one more step
    have next : ∀ (g2 : zHp) (c2 : zPC), ¬ pEnd t (p, (K, T)) → pStep t (p, (K, T)) = .inr c2 → zSh g2 → zF4 mPr g g2 → mCfg g2 t c2 → wpN G d M_X11_templateFault 33 [(0, vR 343)] [] g2 Q := fun g2 c2 ne st s2 F2 cf2 => by
      obtain ⟨a1, a2, a3⟩ := pInv_step (t := t) (c := (p, (K, T))) hp pi st
      have a3 : p < c2.1 := a3
      exact ih (t.length + 1 - c2.1) (by omega) (n + 1) c2 g2 (by omega) (pW_tr w (pW_1 ne st)) a2 a1 (kC0_step (t := t) (c := (p, (K, T))) pi kc st) cf2 s2 (F.tr F2)
    have item : ¬ pEnd t (p, (K, T)) → (K ≠ [] → tg t p ≠ 125) → wpN G (d - 1) M_X11_readsItem 0 (zar 0 [vR 343]) [] g (qV (fun h9 => zSh h9 ∧ (zSh h9 → wpN G d M_X11_templateFault 33 [(0, vR 343)] [] h9 Q))) := fun ne hc => by
      have est := pStep_item (t := t) (T := T) hc
      refine sp_readsItem ht (by omega) sg cf pi ⟨fun g2 p' r e s2 F2 x2 m2 a b c => qV_i ⟨s2, fun _ => next g2 (p', (K, T ++ [r])) ne (by rw [est, pB_inr e]; rfl) s2 F2 ⟨x2, ?_, m2, a, b⟩⟩, fun g2 p' r e s2 F2 x2 m2 a b c => qV_i ⟨s2, fun _ => next g2 (p', (T.length :: K, T ++ [r])) ne (by rw [est, pB_inr e]; rfl) s2 F2 ⟨x2, ?_, m2, ?_, b⟩⟩, fun g2 f e s2 F2 d2 => qV_i ⟨s2, fun _ => dead g2 f (pFl_of w (pFl_0 ne (by rw [est, pB_inl e]))) s2 (F.tr F2) d2⟩⟩
      · show gI g2 352 4 = ((T ++ [r]).length : Int)
        rw [c, List.length_append]; show _ = ((T.length + 1 : Nat) : Int); omega
      · show gI g2 352 4 = ((T ++ [r]).length : Int)
        rw [c, List.length_append]; show _ = ((T.length + 1 : Nat) : Int); omega
      · show gI g2 343 19 = ((K.length + 1 : Nat) : Int)
        rw [a]; omega
    have clos : ∀ i K', K = i :: K' → tg t p = 125 → wpN G (d - 1) M_X11_closes 0 (zar 0 [vR 343]) [] g (qV (fun h9 => zSh h9 ∧ (zSh h9 → wpN G d M_X11_templateFault 33 [(0, vR 343)] [] h9 Q))) := fun i K' eK c => by
      subst eK
      have ne : ¬ pEnd t (p, (i :: K', T)) := fun w => by have := w.1; cases this
      have est : pStep t (p, (i :: K', T)) = pB (pClo t T i p) (fun y => .inr (y.1, (K', y.2))) := by rw [pStep, if_pos c]
      refine sp_closes (by omega) sg cf pi c (kc i (by simp)) (fun g2 y ey s2 F2 cf2 => qV_i ⟨s2, fun _ => next g2 (y.1, (K', y.2)) ne (by rw [est, pB_inr ey]) s2 F2 cf2⟩) (fun g2 f ey s2 F2 d2 => qV_i ⟨s2, fun _ => dead g2 f (pFl_of w (pFl_0 ne (by rw [est, pB_inl ey]))) s2 (F.tr F2) d2⟩)
    refine vc_X11_templateFault_33 g sg hd (fun g' => wpN G d M_X11_templateFault 33 [(0, vR 343)] [] g' Q) (fun _ w => w) ⟨fun w => absurd x.2.2.2.2 w, fun _ => ⟨fun lt => ?_, fun ge => ⟨fun d0 => ?_, fun d1 => ?_⟩⟩⟩
    · have ne : ¬ pEnd t (p, (K, T)) := fun w => by have w2 : t.length ≤ p := w.2; omega
      refine sp_nextL sg x (qI_i ⟨sg, fun n125 => item ne (fun _ => n125), fun c125 => ⟨fun d0 => item ne (fun z => ?_), fun d1 => ?_⟩⟩)
      · have : K.length ≠ 0 := fun e => z (List.eq_nil_of_length_eq_zero e)
        omega
      · cases K with
        | nil => have d1' : (0 : Int) < gI g 343 19 := d1; rw [dep] at d1'; exact absurd d1' (by show ¬ (0 : Int) < ((0 : Nat) : Int); omega)
        | cons i K' => exact clos i K' rfl c125
    · have kn : K = [] := List.eq_nil_of_length_eq_zero (by omega)
      rw [x.2.2.2.2]
      exact k1 g T ⟨n, (p, (K, T)), w, ⟨kn, by show t.length ≤ p; omega⟩, rfl⟩ sg F cf.2.1 cf.2.2.1
    · have kn : K ≠ [] := fun e => by rw [e] at dep; have : gI g 343 19 = 0 := dep; omega
      have ne : ¬ pEnd t (p, (K, T)) := fun w => kn w.1
      refine sp_nextL sg x (qI_i ⟨sg, fun n125 => item ne (fun _ => n125), fun c125 => ?_⟩)
      rw [tg_out (by omega)] at c125
      omega
  refine vc_X11_templateFault_0 h hS hd (fun g => wpN G d M_X11_templateFault 33 [(0, vR 343)] [] g Q) (fun _ w => w) (fun h1 e1 h3 e3 h5 e5 h7 e7 h9 e9 => ?_)
  have F9 : zF4 mPr h h9 := by
    rw [e9, e7, e5, e3, e1]
    exact ((((zF4.sI (Or.inl ⟨rfl, by omega, by omega⟩)).tr (zF4.sI (Or.inl ⟨rfl, by omega, by omega⟩))).tr (zF4.sI (Or.inr (Or.inr ⟨rfl, rfl⟩)))).tr (zF4.sI (Or.inl ⟨rfl, by omega, by omega⟩))).tr (zF4.sI (Or.inl ⟨rfl, by omega, by omega⟩))
  obtain ⟨t9, o9⟩ := mtx_Pr F9 e o
  have v15 : gI h9 343 15 = 0 := by rw [e9, e7, e5, e3, e1]; simp [gI_sI]
  have v16 : gI h9 343 16 = -1009 := by rw [e9, e7, e5, e3]; simp [gI_sI]
  have v19 : gI h9 343 19 = 0 := by rw [e9, e7]; simp [gI_sI]
  have v20 : gI h9 343 20 = -1 := by rw [e9]; simp [gI_sI]
  have v4 : gI h9 352 4 = 0 := by rw [e9, e7, e5]; simp [gI_sI]
  refine sp_blanks (by omega) (F9.Sh hS) o9 (by omega) (by omega) (fun g sg F eg => qV_i ⟨sg, fun _ => ?_⟩)
  rw [t9, v15] at eg
  have eg : gI g 343 15 = ((bl t 0 : Nat) : Int) := eg
  have F2 : zF4 mPr h9 g := F.mono (fun b j w => Or.inl ⟨w.1, by have := w.2; omega, by have := w.2; omega⟩)
  have on : ∀ b j, ¬ (b = 343 ∧ j = 15) → gI g b j = gI h9 b j := fun b j w => F.I _ _ (fun z => w z)
  obtain ⟨tg', og⟩ := mtx_Pr F2 t9 o9
  have b0 := bl_le (t := t) (i := 0) (Nat.zero_le _)
  refine loop (t.length + 1 - bl t 0) 0 (bl t 0, ([], [])) g (by show bl t 0 + _ = _; omega) rfl b0.2 pInv_nil (fun x hx => absurd hx (by simp)) ⟨⟨tg', og, b0.2, eg, by rw [on _ _ (by omega), v16]⟩, ?_, fun k hk => absurd hk (by show ¬ k < 0; omega), ?_, ?_⟩ sg (F9.tr F2)
  · show gI g 352 4 = ((0 : Nat) : Int)
    rw [on _ _ (by omega), v4]; rfl
  · show gI g 343 19 = ((0 : Nat) : Int)
    rw [on _ _ (by omega), v19]; rfl
  · show gI g 343 20 = -1
    rw [on _ _ (by omega), v20]
end MFAULT
