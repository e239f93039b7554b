/-! reading a template: the small parts of the model -/
def mPr : Nat → Nat → Prop := fun b j => (b = 343 ∧ 15 ≤ j ∧ j ≤ 20) ∨ (b = 351 ∧ 1344 ≤ j) ∨ (b = 352 ∧ j = 4)
def mSc4 : Nat → Nat → Prop := fun b j => b = 343 ∧ 15 ≤ j ∧ j ≤ 18
/-- no fault yet, at p -/
def mLv (h : zHp) (t : List Int) (p : Nat) : Prop := tM h = t ∧ mtOk h ∧ p ≤ t.length ∧ gI h 343 15 = (p : Int) ∧ gI h 343 16 = -1009
/-- the fault f was met -/
def mDd (h : zHp) (t : List Int) (f : Nat) : Prop := tM h = t ∧ mtOk h ∧ (∃ p : Nat, p ≤ t.length ∧ gI h 343 15 = (p : Int)) ∧ gI h 343 16 = (f : Int)
theorem mt_len {h : zHp} {t : List Int} (e : tM h = t) (o : mtOk h) : (t.length : Int) = gI h 343 12 ∧ t.length ≤ 120 := by
  have := tM_len o.1
  rw [e] at this
  have := o.2
  omega
theorem mtx_F {P : Nat → Nat → Prop} {h h' : zHp} {t : List Int} (F : zF4 P h h') (p1 : ¬ P 343 12) (p2 : ∀ j, ¬ P 350 j) (e : tM h = t) (o : mtOk h) : tM h' = t ∧ mtOk h' := by
  refine ⟨by rw [tM_F4 F p1 p2, e], ?_⟩
  unfold mtOk
  rw [F.I _ _ p1]
  exact o
theorem mPr_12 : ¬ mPr 343 12 := by rintro (⟨_, w, _⟩ | ⟨w, _⟩ | ⟨w, _⟩) <;> omega
theorem mPr_350 : ∀ j, ¬ mPr 350 j := by rintro j (⟨w, _⟩ | ⟨w, _⟩ | ⟨w, _⟩) <;> omega
theorem mSc4_Pr {b j : Nat} (h : mSc4 b j) : mPr b j := Or.inl ⟨h.1, h.2.1, by have := h.2.2; omega⟩
theorem FSP {h h' : zHp} (F : zF4 mSc4 h h') : zF4 mPr h h' := F.mono (fun _ _ w => mSc4_Pr w)
theorem mtx_Pr {h h' : zHp} {t : List Int} (F : zF4 mPr h h') (e : tM h = t) (o : mtOk h) : tM h' = t ∧ mtOk h' := mtx_F F mPr_12 mPr_350 e o
theorem mLv_mv {h h' : zHp} {t : List Int} {p p' : Nat} (F : zF4 mPr h h') (x : mLv h t p) (hp : p' ≤ t.length) (e : gI h' 343 15 = (p' : Int)) (e2 : gI h' 343 16 = -1009) : mLv h' t p' := by
  obtain ⟨a, b⟩ := mtx_Pr F x.1 x.2.1
  exact ⟨a, b, hp, e, e2⟩
section MREAD
variable {G : zG} {d : Nat} {Q : Option zV → zHp → Prop} {h : zHp} {t : List Int} {p f : Nat}
theorem mDd_of {h' : zHp} (F : zF4 mPr h h') (e : tM h = t) (o : mtOk h) (hp : ∃ p : Nat, p ≤ t.length ∧ gI h' 343 15 = (p : Int)) (e2 : gI h' 343 16 = (f : Int)) : mDd h' t f := by
  obtain ⟨a, b⟩ := mtx_Pr F e o
  exact ⟨a, b, hp, e2⟩
theorem sp_faultsD {z : Int} (hS : zSh h) (x : mDd h t f) (k : ∀ h', zSh h' → zF4 mSc4 h h' → mDd h' t f → Q none h') : wpN G d M_X11_faults 0 (zar 0 [vR 343, vI z]) [] h Q := by
  refine vc_X11_faults_0 z h hS (Nat.zero_le _) ⟨fun _ h2 e2 => ?_, fun c => by rw [x.2.2.2] at c; omega⟩
  have F : zF4 mSc4 h h2 := by rw [e2]; exact zF4.sI ⟨rfl, by omega, by omega⟩
  refine k h2 (F.Sh hS) F (mDd_of (FSP F) x.1 x.2.1 ?_ ?_)
  · rw [e2, gI_sI, if_neg (by omega)]; exact x.2.2.1
  · rw [e2, gI_sI, if_pos ⟨rfl, rfl⟩, x.2.2.2]
theorem sp_faultsL {z : Int} (hS : zSh h) (x : mLv h t p) (ez : z = (f : Int)) (k : ∀ h', zSh h' → zF4 mSc4 h h' → mDd h' t f → Q none h') : wpN G d M_X11_faults 0 (zar 0 [vR 343, vI z]) [] h Q := by
  obtain ⟨x1, x2, x3, x4, x5⟩ := x
  refine vc_X11_faults_0 z h hS (Nat.zero_le _) ⟨fun c => absurd x5 c, fun _ h2 e2 => ?_⟩
  have F : zF4 mSc4 h h2 := by rw [e2]; exact zF4.sI ⟨rfl, by omega, by omega⟩
  refine k h2 (F.Sh hS) F (mDd_of (FSP F) x1 x2 ⟨p, x3, ?_⟩ ?_)
  · rw [e2, gI_sI, if_neg (by omega)]; exact x4
  · rw [e2, gI_sI, if_pos ⟨rfl, rfl⟩, ez]
theorem sp_nextL (hS : zSh h) (x : mLv h t p) (k : Q (some (vI (tg t p))) h) : wpN G d M_X11_next 0 (zar 0 [vR 343]) [] h Q := by
  obtain ⟨x1, x2, x3, x4, x5⟩ := x
  refine sp_next hS x2 (by omega) (fun r er => ?_)
  rw [er, x1, x4, show (p : Int).toNat = p by omega]
  exact k
/-- one sign on, then blanks -/
theorem sp_stepL {h1 : zHp} {q : Nat} (hd : 1 ≤ d) (hS : zSh h) (x : mLv h t p) (hp : p < t.length) (e1 : h1 = sI h 343 15 ((p : Int) + 1)) (k : ∀ h', zSh h' → zF4 mSc4 h h' → mLv h' t (bl t (p + 1)) → (∀ j, j ≠ 15 → gI h' 343 j = gI h 343 j) → Q none h') : wpN G d M_X11_blanks 0 (zar 0 [vR 343]) [] h1 Q := by
  have F1 : zF4 mSc4 h h1 := by rw [e1]; exact zF4.sI ⟨rfl, by omega, by omega⟩
  have l := mt_len x.1 x.2.1
  have q15 : gI h1 343 15 = ((p + 1 : Nat) : Int) := by rw [e1, gI_sI, if_pos ⟨rfl, rfl⟩]; omega
  have x1 : mLv h1 t (p + 1) := mLv_mv (FSP F1) x (by omega) q15 (by rw [e1, gI_sI, if_neg (by omega)]; exact x.2.2.2.2)
  refine sp_blanks hd (F1.Sh hS) x1.2.1 (by omega) (by omega) (fun g sg F eg => ?_)
  rw [x1.1, q15, show ((p + 1 : Nat) : Int).toNat = p + 1 by omega] at eg
  have F2 : zF4 mSc4 h1 g := F.mono (fun b j w => ⟨w.1, by have := w.2; omega, by have := w.2; omega⟩)
  have on : ∀ j, j ≠ 15 → gI g 343 j = gI h 343 j := fun j hj => by
    rw [F.I _ _ (fun w => hj w.2), e1, gI_sI, if_neg (fun w => hj w.2)]
  exact k g sg (F1.tr F2) (mLv_mv (FSP (F1.tr F2)) x (bl_le (by omega)).2 eg (by rw [on 16 (by omega)]; exact x.2.2.2.2)) on
theorem sp_takesL {c : Int} (hd : 2 ≤ d) (hS : zSh h) (x : mLv h t p) (hc : 0 ≤ c)
    (k1 : ∀ h' p', pSg t c p = .inr p' → tg t p = c → zSh h' → zF4 mSc4 h h' → mLv h' t p' → (∀ j, j ≠ 15 → gI h' 343 j = gI h 343 j) → Q (some (vI 1)) h') (k0 : pSg t c p = .inl p → tg t p ≠ c → Q (some (vI 0)) h) : wpN G d M_X11_takes 0 (zar 0 [vR 343, vI c]) [] h Q := by
  have l := mt_len x.1 x.2.1
  have xp := x.2.2.1
  refine vc_X11_takes_0 c h hS hd ⟨fun w => absurd x.2.2.2.2 w, fun _ => sp_nextL hS x (qI_i ⟨hS, fun ne => k0 (by unfold pSg; rw [if_neg ne]) ne, fun eq => ?_⟩)⟩
  rw [x.2.2.2.1]
  exact ⟨by omega, fun h10 e10 => sp_stepL (q := 0) (by omega) hS x (tg_lt (by omega)) e10 (fun h' s' F x' on => qV_i ⟨s', k1 h' _ (by unfold pSg; rw [if_pos eq]) eq s' F x' on⟩)⟩
theorem sp_takesD {c : Int} (hd : 2 ≤ d) (hS : zSh h) (x : mDd h t f) (k : Q (some (vI 0)) h) : wpN G d M_X11_takes 0 (zar 0 [vR 343, vI c]) [] h Q :=
  vc_X11_takes_0 c h hS hd ⟨fun _ => k, fun w => by rw [x.2.2.2] at w; omega⟩
theorem sp_expectsL {c : Int} (hd : 3 ≤ d) (hS : zSh h) (x : mLv h t p) (hc : 0 ≤ c)
    (k1 : ∀ h' p', pSg t c p = .inr p' → zSh h' → zF4 mSc4 h h' → mLv h' t p' → Q none h') (k0 : ∀ h' f, pSg t c p = .inl f → zSh h' → zF4 mSc4 h h' → mDd h' t f → Q none h') : wpN G d M_X11_expects 0 (zar 0 [vR 343, vI c]) [] h Q :=
  vc_X11_expects_0 c h hS hd (sp_takesL (by omega) hS x hc (fun h' p' e _ s' F x' _ => qI_i ⟨s', fun _ => k1 h' p' e s' F x', fun w => absurd w (by omega)⟩) (fun e _ => qI_i ⟨hS, fun w => absurd rfl w, fun _ => sp_faultsL hS x x.2.2.2.1 (fun h' s' F d' => qV_i ⟨s', k0 h' p e s' F d'⟩)⟩))
theorem sp_expectsD {c : Int} (hd : 3 ≤ d) (hS : zSh h) (x : mDd h t f) (k : ∀ h', zSh h' → zF4 mSc4 h h' → mDd h' t f → Q none h') : wpN G d M_X11_expects 0 (zar 0 [vR 343, vI c]) [] h Q :=
  vc_X11_expects_0 c h hS hd (sp_takesD (by omega) hS x (qI_i ⟨hS, fun w => absurd rfl w, fun _ => sp_faultsD hS x (fun h' s' F d' => qV_i ⟨s', k h' s' F d'⟩)⟩))
theorem sp_bbnD (hd : 2 ≤ d) (hS : zSh h) (x : mDd h t f) (k : ∀ h', zSh h' → zF4 mSc4 h h' → mDd h' t f → Q none h') : wpN G d M_X11_blanksBehindNumber 0 (zar 0 [vR 343]) [] h Q := by
  obtain ⟨x1, x2, ⟨p, xp, x3⟩, x4⟩ := x
  have l := mt_len x1 x2
  refine vc_X11_blanksBehindNumber_0 h hS hd (sp_next hS x2 (by omega) (fun r er => qI_i ⟨hS, sp_in hS (fun r2 h2 => qI_i ⟨hS, fun _ => k h hS zF4.rf ⟨x1, x2, ⟨p, xp, x3⟩, x4⟩, fun _ => ?_⟩)⟩))
  refine sp_blanks (by omega) hS x2 (by omega) (by omega) (fun g sg F eg => qV_i ⟨sg, ?_⟩)
  have F2 : zF4 mSc4 h g := F.mono (fun b j w => ⟨w.1, by have := w.2; omega, by have := w.2; omega⟩)
  refine k g sg F2 (mDd_of (FSP F2) x1 x2 ⟨_, (bl_le (t := t) xp).2, ?_⟩ ?_)
  · rw [eg, x1, x3, show (p : Int).toNat = p by omega]
  · rw [F.I _ _ (fun w => by have := w.2; omega)]; exact x4
theorem sp_bbnL (hd : 2 ≤ d) (hS : zSh h) (x : mLv h t p) (k : ∀ h', zSh h' → zF4 mSc4 h h' → mLv h' t (bl t p) → (∀ j, j ≠ 15 → gI h' 343 j = gI h 343 j) → Q none h') : wpN G d M_X11_blanksBehindNumber 0 (zar 0 [vR 343]) [] h Q := by
  obtain ⟨x1, x2, xp, x3, x4⟩ := x
  have l := mt_len x1 x2
  refine vc_X11_blanksBehindNumber_0 h hS hd (sp_nextL hS ⟨x1, x2, xp, x3, x4⟩ (qI_i ⟨hS, sp_in hS (fun r2 h2 => qI_i ⟨hS, fun w => ?_, fun _ => ?_⟩)⟩))
  · have e : bl t p = p := by
      rw [bl_step, if_neg]
      rcases h2 with z | z <;> omega
    exact k h hS zF4.rf (by rw [e]; exact ⟨x1, x2, xp, x3, x4⟩) (fun _ _ => rfl)
  · refine sp_blanks (by omega) hS x2 (by omega) (by omega) (fun g sg F eg => qV_i ⟨sg, ?_⟩)
    have F2 : zF4 mSc4 h g := F.mono (fun b j w => ⟨w.1, by have := w.2; omega, by have := w.2; omega⟩)
    have on : ∀ j, j ≠ 15 → gI g 343 j = gI h 343 j := fun j hj => F.I _ _ (fun w => hj w.2)
    rw [x1, x3, show (p : Int).toNat = p by omega] at eg
    exact k g sg F2 (mLv_mv (FSP F2) ⟨x1, x2, xp, x3, x4⟩ (bl_le xp).2 eg (by rw [on 16 (by omega)]; exact x4)) on
theorem sp_numberD (hd : 3 ≤ d) (hS : zSh h) (x : mDd h t f) (k : ∀ h' v, zSh h' → zF4 mSc4 h h' → mDd h' t f → Q (some (vI v)) h') : wpN G d M_X11_number 0 (zar 0 [vR 343]) [] h Q := by
  refine vc_X11_number_0 h hS hd (fun y1 g => y1 = 0 ∧ g = sI h 343 17 (gI h 343 15)) ?_ (fun h1 e1 _ => ⟨rfl, e1⟩)
  rintro _ _ ⟨q0, q1⟩
  rw [q0, q1]
  have F1 : zF4 mSc4 h (sI h 343 17 (gI h 343 15)) := zF4.sI ⟨rfl, by omega, by omega⟩
  have s1 := F1.Sh hS
  have x1 : mDd (sI h 343 17 (gI h 343 15)) t f := mDd_of (FSP F1) x.1 x.2.1 (by rw [gI_sI, if_neg (by omega)]; exact x.2.2.1) (by rw [gI_sI, if_neg (by omega)]; exact x.2.2.2)
  refine vc_X11_number_10 0 _ s1 hd (fun _ _ => False) (fun _ _ w => w.elim) ⟨fun _ => ⟨fun _ => sp_bbnD (by omega) s1 x1 (fun h' s' F d' => qV_i ⟨s', k h' 0 s' (F1.tr F) d'⟩), fun _ => sp_faultsD s1 x1 (fun h8 s8 F8 d8 => qV_i ⟨s8, sp_bbnD (by omega) s8 d8 (fun h' s' F d' => qV_i ⟨s', k h' 0 s' ((F1.tr F8).tr F) d'⟩)⟩)⟩, fun w => ?_⟩
  rw [x1.2.2.2] at w
  omega
theorem sp_numberL (hd : 3 ≤ d) (hS : zSh h) (x : mLv h t p)
    (k1 : ∀ h' y, pNu t p = .inr y → zSh h' → zF4 mSc4 h h' → mLv h' t y.1 → gI h' 343 17 = (p : Int) → Q (some (vI y.2)) h') (k0 : ∀ h' f, pNu t p = .inl f → zSh h' → zF4 mSc4 h h' → mDd h' t f → Q (some (vI 0)) h') : wpN G d M_X11_number 0 (zar 0 [vR 343]) [] h Q := by
  have l := mt_len x.1 x.2.1
  have xp := x.2.2.1
  have loop : ∀ (n e : Nat) (v : Int) (g : zHp), e + n = p + 3 → p ≤ e → zSh g → zF4 mSc4 h g → mLv g t e → gI g 343 17 = (p : Int) → (0 ≤ v ∧ v ≤ 10000) → (v + 1) * 10 ^ n ≤ 1000 → nSc t n e v = nSc t 3 p 0 → (p < e → isDgB (tg t p) = true) → wpN G d M_X11_number 10 [(0, vR 343), (1, vI v)] [] g Q := by
    intro n
    induction n with
    | zero =>
      intro e v g he hpe sg F xg e17 hv hb en dg
      rw [nSc] at en
      have x15 := xg.2.2.2.1
      have fin : wpN G (d - 1) M_X11_blanksBehindNumber 0 (zar 0 [vR 343]) [] g (qV (fun h4 => zSh h4 ∧ Q (some (vI v)) h4)) := sp_bbnL (by omega) sg xg (fun h' s' F' x' on => qV_i ⟨s', k1 h' (bl t e, v) (by unfold pNu; rw [if_pos (dg (by omega)), ← en]) s' (F.tr F') x' (by rw [on 17 (by omega), e17])⟩)
      refine vc_X11_number_10 v g sg hd (fun _ _ => False) (fun _ _ w => w.elim) ⟨fun w => absurd xg.2.2.2.2 w, fun _ => sp_nextL sg xg (qI_i ⟨sg, sp_in sg (fun r2 h2 => qI_i ⟨sg, fun _ => ⟨fun _ => fin, fun w => by omega⟩, fun _ => ⟨by omega, fun _ => ⟨fun _ => fin, fun w => by omega⟩, fun w => by omega⟩⟩)⟩)⟩
    | succ n ih =>
      intro e v g he hpe sg F xg e17 hv hb en dg
      have x15 := xg.2.2.2.1
      have xe := xg.2.2.1
      have pw : (0 : Int) < 10 ^ n := Int.pow_pos (by omega)
      rw [Int.pow_succ] at hb
      refine vc_X11_number_10 v g sg hd (fun y1 g' => wpN G d M_X11_number 10 [(0, vR 343), (1, vI y1)] [] g' Q) (fun _ _ w => w) ⟨fun w => absurd xg.2.2.2.2 w, fun _ => sp_nextL sg xg (qI_i ⟨sg, sp_in sg (fun r2 h2 => qI_i ⟨sg, fun z => ?_, fun z => ⟨by omega, fun w => by omega, fun _ => ⟨by omega, sp_nextL sg xg (qI_i ⟨sg, ?_⟩)⟩⟩⟩)⟩)⟩
      · have nd : isDgB (tg t e) = false := by
          cases hh : isDgB (tg t e) with
          | false => rfl
          | true =>
            have := isDgB_iff.mp hh
            have w1 := this.1
            have w2 := this.2
            rcases h2 with w | w <;> omega
        rw [nSc, if_neg (by rw [nd]; simp)] at en
        refine ⟨fun ne => ?_, fun eq => ?_⟩
        · exact sp_bbnL (by omega) sg xg (fun h' s' F' x' on => qV_i ⟨s', k1 h' (bl t e, v) (by unfold pNu; rw [if_pos (dg (by omega)), ← en]) s' (F.tr F') x' (by rw [on 17 (by omega), e17])⟩)
        · have ep : e = p := by omega
          have nd2 := nd
          rw [ep] at nd2
          have ev : v = 0 := by
            rw [nSc, nd2] at en
            exact congrArg Prod.snd en
          rw [ev]
          refine sp_faultsL sg xg x15 (fun h8 s8 F8 d8 => qV_i ⟨s8, sp_bbnD (by omega) s8 d8 (fun h' s' F' d' => qV_i ⟨s', k0 h' e ?_ s' ((F.tr F8).tr F') d'⟩)⟩)
          unfold pNu
          rw [if_neg (by rw [nd2]; simp), ep]
      · have nd : isDgB (tg t e) = true := by
          rw [isDgB_iff]
          rcases h2 with w | w
          · exact ⟨w.1, w.2.1⟩
          · exact absurd w.2 z
        have dg2 := isDgB_iff.mp nd
        have d1 := dg2.1
        have d2 := dg2.2
        rw [nSc, if_pos nd] at en
        refine ⟨by omega, by omega, fun x55 e55 => ⟨by omega, fun h57 e57 s57 => ?_⟩⟩
        have F57 : zF4 mSc4 g h57 := by rw [e57]; exact zF4.sI ⟨rfl, by omega, by omega⟩
        rw [e55]
        have h3 : (10 * v + tg t e - 48 + 1) * 10 ^ n ≤ (10 * (v + 1)) * 10 ^ n := Int.mul_le_mul_of_nonneg_right (by omega) (by omega)
        have h4 : (10 * (v + 1)) * 10 ^ n = (v + 1) * (10 ^ n * 10) := by rw [Int.mul_comm 10 (v + 1), Int.mul_assoc, Int.mul_comm 10]
        have h5 : (10 * v + tg t e - 48 + 1) * 1 ≤ (10 * v + tg t e - 48 + 1) * 10 ^ n := Int.mul_le_mul_of_nonneg_left (by omega) (by omega)
        have h6 : (v + 1) * 1 ≤ (v + 1) * 10 ^ n := Int.mul_le_mul_of_nonneg_left (by omega) (by omega)
        have h7 : (v + 1) * (10 ^ n * 10) = ((v + 1) * 10 ^ n) * 10 := by rw [Int.mul_assoc]
        refine ih (e + 1) _ h57 (by omega) (by omega) s57 (F.tr F57) (mLv_mv (FSP F57) xg (tg_lt (by omega)) ?_ ?_) ?_ (by omega) (by omega) en (fun _ => ?_)
        · rw [e57, gI_sI, if_pos ⟨rfl, rfl⟩]; omega
        · rw [e57, gI_sI, if_neg (by omega)]; exact xg.2.2.2.2
        · rw [e57, gI_sI, if_neg (by omega)]; exact e17
        · by_cases q : p < e
          · exact dg q
          · rw [show p = e by omega]; exact nd
  refine vc_X11_number_0 h hS hd (fun y1 g => y1 = 0 ∧ g = sI h 343 17 (gI h 343 15)) ?_ (fun h1 e1 _ => ⟨rfl, e1⟩)
  rintro _ _ ⟨q0, q1⟩
  rw [q0, q1]
  have F1 : zF4 mSc4 h (sI h 343 17 (gI h 343 15)) := zF4.sI ⟨rfl, by omega, by omega⟩
  exact loop 3 p 0 _ rfl (Nat.le_refl _) (F1.Sh hS) F1 (mLv_mv (FSP F1) x xp (by rw [gI_sI, if_neg (by omega)]; exact x.2.2.2.1) (by rw [gI_sI, if_neg (by omega)]; exact x.2.2.2.2)) (by rw [gI_sI, if_pos ⟨rfl, rfl⟩]; exact x.2.2.2.1) (by omega) (by decide) rfl (fun w => absurd w (by omega))
theorem sp_nameL (hd : 2 ≤ d) (hS : zSh h) (x : mLv h t p)
    (k1 : ∀ h', isNmB (tg t p) = true → zSh h' → zF4 mSc4 h h' → mLv h' t (bl t (p + 1)) → gI h' 343 18 = (p : Int) → Q (some (vI (tg t p))) h') (k0 : ∀ h', isNmB (tg t p) = false → zSh h' → zF4 mSc4 h h' → mDd h' t p → gI h' 343 18 = (p : Int) → Q (some (vI 0)) h') : wpN G d M_X11_name 0 (zar 0 [vR 343]) [] h Q := by
  have l := mt_len x.1 x.2.1
  have xp := x.2.2.1
  refine vc_X11_name_0 h hS hd (fun h1 e1 => ?_)
  have F1 : zF4 mSc4 h h1 := by rw [e1]; exact zF4.sI ⟨rfl, by omega, by omega⟩
  have s1 := F1.Sh hS
  have x1 : mLv h1 t p := mLv_mv (FSP F1) x xp (by rw [e1, gI_sI, if_neg (by omega)]; exact x.2.2.2.1) (by rw [e1, gI_sI, if_neg (by omega)]; exact x.2.2.2.2)
  have e18 : gI h1 343 18 = (p : Int) := by rw [e1, gI_sI, if_pos ⟨rfl, rfl⟩]; exact x.2.2.2.1
  refine sp_nextL s1 x1 (qI_i ⟨s1, sp_in s1 (fun r hr => qI_i ⟨s1, fun z => ?_, fun z => ?_⟩)⟩)
  · have nm : isNmB (tg t p) = true := by
      rw [isNmB_iff]
      rcases hr with w | w
      · exact ⟨w.1, w.2.1⟩
      · exact absurd w.2 z
    have c97 := (isNmB_iff.mp nm).1
    rw [x1.2.2.2.1]
    exact ⟨by omega, fun h12 e12 => sp_stepL (q := 0) (by omega) s1 x1 (tg_lt (by omega)) e12 (fun h' s' F x' on => qV_i ⟨s', k1 h' nm s' (F1.tr F) x' (by rw [on 18 (by omega), e18])⟩)⟩
  · have nm : isNmB (tg t p) = false := by
      cases hh : isNmB (tg t p) with
      | false => rfl
      | true =>
        have := isNmB_iff.mp hh
        have w1 := this.1
        have w2 := this.2
        rcases hr with w | w <;> omega
    have hs : ∀ (h' : zHp), h' = sI h1 343 16 (p : Int) → zSh h' ∧ Q (some (vI 0)) h' := fun h' e' => by
      have F' : zF4 mSc4 h1 h' := by rw [e']; exact zF4.sI ⟨rfl, by omega, by omega⟩
      refine ⟨F'.Sh s1, k0 h' nm (F'.Sh s1) (F1.tr F') (mDd_of (FSP F') x1.1 x1.2.1 ⟨p, xp, ?_⟩ ?_) ?_⟩
      · rw [e', gI_sI, if_neg (by omega)]; exact x1.2.2.2.1
      · rw [e', gI_sI, if_pos ⟨rfl, rfl⟩]
      · rw [e', gI_sI, if_neg (by omega)]; exact e18
    rw [x1.2.2.2.1]
    refine vc_X11_faults_0 _ h1 s1 (Nat.zero_le _) ⟨fun w => absurd x1.2.2.2.2 w, fun _ h4 e4 => qV_i (hs h4 e4)⟩
theorem sp_nameD (hd : 2 ≤ d) (hS : zSh h) (x : mDd h t f) (k : ∀ h' z, zSh h' → zF4 mSc4 h h' → mDd h' t f → Q (some (vI z)) h') : wpN G d M_X11_name 0 (zar 0 [vR 343]) [] h Q := by
  obtain ⟨x1, x2, ⟨p, xp, x3⟩, x4⟩ := x
  have l := mt_len x1 x2
  refine vc_X11_name_0 h hS hd (fun h1 e1 => ?_)
  have F1 : zF4 mSc4 h h1 := by rw [e1]; exact zF4.sI ⟨rfl, by omega, by omega⟩
  have s1 := F1.Sh hS
  obtain ⟨y1, y2⟩ := mtx_Pr (FSP F1) x1 x2
  have y3 : gI h1 343 15 = (p : Int) := by rw [e1, gI_sI, if_neg (by omega)]; exact x3
  have y4 : gI h1 343 16 = (f : Int) := by rw [e1, gI_sI, if_neg (by omega)]; exact x4
  refine sp_next s1 y2 (by omega) (fun r er => qI_i ⟨s1, sp_in s1 (fun r2 hr => qI_i ⟨s1, fun z => ?_, fun z => sp_faultsD s1 ⟨y1, y2, ⟨p, xp, y3⟩, y4⟩ (fun h' s' F d' => qV_i ⟨s', k h' 0 s' (F1.tr F) d'⟩)⟩)⟩)
  rw [y1, y3, show (p : Int).toNat = p by omega] at er
  have pl : p < t.length := tg_lt (by rcases hr with w | w <;> omega)
  rw [y3]
  refine ⟨by omega, fun h12 e12 => ?_⟩
  have F12 : zF4 mSc4 h1 h12 := by rw [e12]; exact zF4.sI ⟨rfl, by omega, by omega⟩
  obtain ⟨w1, w2⟩ := mtx_Pr (FSP F12) y1 y2
  have w3 : gI h12 343 15 = ((p + 1 : Nat) : Int) := by rw [e12, gI_sI, if_pos ⟨rfl, rfl⟩]; omega
  refine sp_blanks (by omega) (F12.Sh s1) w2 (by omega) (by omega) (fun g sg F eg => qV_i ⟨sg, ?_⟩)
  have F2 : zF4 mSc4 h12 g := F.mono (fun b j w => ⟨w.1, by have := w.2; omega, by have := w.2; omega⟩)
  refine k g r sg ((F1.tr F12).tr F2) (mDd_of (FSP F2) w1 w2 ⟨_, (bl_le (t := t) (i := p + 1) (by omega)).2, ?_⟩ ?_)
  · rw [eg, w1, w3, show ((p + 1 : Nat) : Int).toNat = p + 1 by omega]
  · rw [F.I _ _ (fun w => by have := w.2; omega), e12, gI_sI, if_neg (by omega)]; exact y4
end MREAD
