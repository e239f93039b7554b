/-! repair: pure part -/
def zup (f : Nat → Int) (p : Nat) (b : Int) : Nat → Int := fun j => if j = p then b else f j
/-- the least byte with P that a search from 255 on down has found -/
def dnB (P : Nat → Bool) : Nat → Int
  | 0 => -1
  | m + 1 => if P (255 - m) = true then ((255 - m : Nat) : Int) else dnB P m
theorem dnB_u {P : Nat → Bool} {n : Int} (n0 : 0 ≤ n) (u : ∀ b : Nat, b ≤ 255 → (P b = true ↔ (b : Int) = n)) : ∀ m : Nat, m ≤ 256 → dnB P m = if 256 - (m : Int) ≤ n ∧ n ≤ 255 then n else -1
  | 0, _ => by rw [dnB, if_neg (by omega)]
  | m + 1, hm => by
    rw [dnB]
    have q := u (255 - m) (by omega)
    by_cases w : P (255 - m) = true
    · have e := q.mp w
      rw [if_pos w, if_pos (by omega)]
      exact e
    · have nw : ((255 - m : Nat) : Int) ≠ n := fun e => w (q.mpr e)
      rw [if_neg w, dnB_u n0 u m (by omega)]
      by_cases z : 256 - (m : Int) ≤ n ∧ n ≤ 255
      · rw [if_pos z, if_pos (by omega)]
      · rw [if_neg z, if_neg (by omega)]
theorem dnB_rng (P : Nat → Bool) : ∀ m : Nat, -1 ≤ dnB P m ∧ dnB P m ≤ 255
  | 0 => by rw [dnB]; omega
  | m + 1 => by
    have ih := dnB_rng P m
    rw [dnB]
    split <;> omega
def rpL (F : Nat → Int) : Nat → Nat → Int
  | _, 0 => -1009
  | p, m + 1 => if 0 ≤ F p then 256 * (p : Int) + F p else rpL F (p + 1) m
def rpP (kind : Int) (f : Nat → Int) (s e aim : Int) (p : Nat) : Nat → Bool := fun b => decide (ckX kind (zup f p (b : Int)) s e = aim)
def rpF (kind : Int) (f : Nat → Int) (s e aim : Int) : Nat → Int := fun p => dnB (rpP kind f s e aim p) 256
def rpE (s e : Int) : Int := if e ≤ s + 16 then e else s + 16
def rpX (kind : Int) (f : Nat → Int) (s e aim : Int) : Int := rpL (rpF kind f s e aim) s.toNat (rpE s e - s).toNat
theorem rpX_congr {kind s e aim : Int} {f g : Nat → Int} (h0 : 0 ≤ s) (h : ∀ j : Nat, (j : Int) < e → f j = g j) : rpX kind f s e aim = rpX kind g s e aim := by
  have q : rpF kind f s e aim = rpF kind g s e aim := by
    funext p
    have q2 : rpP kind f s e aim p = rpP kind g s e aim p := by
      funext b
      have q3 : ckX kind (zup f p (b : Int)) s e = ckX kind (zup g p (b : Int)) s e := ckX_congr h0 (fun j _ hj => by
        unfold zup
        by_cases z : j = p
        · rw [if_pos z, if_pos z]
        · rw [if_neg z, if_neg z]; exact h j hj)
      unfold rpP
      rw [q3]
    unfold rpF
    rw [q2]
  unfold rpX
  rw [q]
theorem rpF_u {kind s e aim n : Int} {f : Nat → Int} {p : Nat} (n0 : 0 ≤ n) (u : ∀ b : Nat, b ≤ 255 → (ckX kind (zup f p (b : Int)) s e = aim ↔ (b : Int) = n)) : rpF kind f s e aim p = if n ≤ 255 then n else -1 := by
  unfold rpF
  rw [dnB_u n0 (fun b hb => by unfold rpP; rw [decide_eq_true_iff]; exact u b hb) 256 (Nat.le_refl _)]
  by_cases z : n ≤ 255
  · rw [if_pos z, if_pos (by omega)]
  · rw [if_neg z, if_neg (by omega)]
theorem rpL_y {F : Nat → Int} {p m : Nat} {n : Int} (e : F p = if n ≤ 255 then n else -1) (n0 : 0 ≤ n) (h : n ≤ 255) : rpL F p (m + 1) = 256 * (p : Int) + n := by
  rw [if_pos h] at e
  rw [rpL, e, if_pos n0]
theorem rpL_n {F : Nat → Int} {p m : Nat} {n : Int} (e : F p = if n ≤ 255 then n else -1) (h : ¬ n ≤ 255) : rpL F p (m + 1) = rpL F (p + 1) m := by
  rw [if_neg h] at e
  rw [rpL, e, if_neg (by omega)]
theorem zup_by {f : Nat → Int} {p : Nat} {b len : Int} (hb : byOk f len) (b0 : 0 ≤ b) (b1 : b ≤ 255) : byOk (zup f p b) len := fun j hj => by
  unfold zup
  by_cases z : j = p
  · rw [if_pos z]; exact ⟨b0, b1⟩
  · rw [if_neg z]; exact hb j hj
theorem ckE_bef {kind s b : Int} {f : Nat → Int} {p k : Nat} (s0 : 0 ≤ s) (hk : s + k ≤ p) : ckE kind (zup f p b) s k = ckE kind f s k :=
  ckE_congr k (fun j hj => by unfold zup; rw [if_neg (by omega)])
/-! exclusive or, and sum -/
theorem xr3 (a p b k : Nat) : ((a ^^^ p) ^^^ b) ^^^ k = ((a ^^^ k) ^^^ p) ^^^ b := by
  rw [Nat.xor_assoc (a ^^^ p) b k, Nat.xor_comm b k, ← Nat.xor_assoc (a ^^^ p) k b, Nat.xor_assoc a p k, Nat.xor_comm p k, ← Nat.xor_assoc a k p]
theorem xrs (a p b : Nat) : ((a ^^^ p) ^^^ p) ^^^ b = a ^^^ b := by rw [Nat.xor_assoc a p p, Nat.xor_self, Nat.xor_zero]
theorem xr_iff (E p b aim : Nat) : (E ^^^ p) ^^^ b = aim ↔ b = (p ^^^ E) ^^^ aim := by
  constructor
  · intro e
    rw [← e, Nat.xor_comm p E, ← Nat.xor_assoc, Nat.xor_self, Nat.zero_xor]
  · intro e
    rw [e, Nat.xor_comm p E, ← Nat.xor_assoc, Nat.xor_self, Nat.zero_xor]
theorem ckE_2 (f : Nat → Int) (s : Int) (k : Nat) : ckE 2 f s (k + 1) = (((ckE 2 f s k).toNat ^^^ (f (s + k).toNat).toNat : Nat) : Int) := by
  rw [ckE, ckA, if_pos rfl]
theorem xor_upd {f : Nat → Int} {s b : Int} {p : Nat} (s0 : 0 ≤ s) (hp : s ≤ p) : ∀ k : Nat, (p : Int) < s + k → (ckE 2 (zup f p b) s k).toNat = ((ckE 2 f s k).toNat ^^^ (f p).toNat) ^^^ b.toNat
  | 0, h => by omega
  | k + 1, h => by
    rw [ckE_2, ckE_2]
    by_cases q : (p : Int) = s + k
    · have ep : (s + (k : Int)).toNat = p := by omega
      rw [ckE_bef s0 (by omega), ep, Int.toNat_natCast, Int.toNat_natCast, xrs]
      unfold zup
      rw [if_pos rfl]
    · have ih := xor_upd (f := f) (b := b) s0 hp k (by omega)
      have eu : zup f p b (s + (k : Int)).toNat = f (s + (k : Int)).toNat := by unfold zup; rw [if_neg (by omega)]
      rw [Int.toNat_natCast, Int.toNat_natCast, ih, eu, xr3]
theorem ckE_3 (f : Nat → Int) (s : Int) (k : Nat) : ckE 3 f s (k + 1) = (ckE 3 f s k + f (s + k).toNat) % 65536 := by
  rw [ckE, ckA, if_neg (by omega), if_pos rfl]
theorem sum_upd {f : Nat → Int} {s b : Int} {p : Nat} (s0 : 0 ≤ s) (hp : s ≤ p) : ∀ k : Nat, (p : Int) < s + k → ckE 3 (zup f p b) s k = (ckE 3 f s k - f p + b) % 65536
  | 0, h => by omega
  | k + 1, h => by
    rw [ckE_3, ckE_3]
    by_cases q : (p : Int) = s + k
    · have ep : (s + (k : Int)).toNat = p := by omega
      have eu : zup f p b p = b := by unfold zup; rw [if_pos rfl]
      rw [ckE_bef s0 (by omega), ep, eu]
      omega
    · have ih := sum_upd (f := f) (b := b) s0 hp k (by omega)
      have eu : zup f p b (s + (k : Int)).toNat = f (s + (k : Int)).toNat := by unfold zup; rw [if_neg (by omega)]
      rw [ih, eu]
      omega
theorem rpF_2 {f : Nat → Int} {s e aim len : Int} {p : Nat} (hb : byOk f len) (s0 : 0 ≤ s) (hp : s ≤ p) (pe : (p : Int) < e) (el : e ≤ len) (a0 : 0 ≤ aim) : rpF 2 f s e aim p = if ((((f p).toNat ^^^ (ckX 2 f s e).toNat) ^^^ aim.toNat : Nat) : Int) ≤ 255 then ((((f p).toNat ^^^ (ckX 2 f s e).toNat) ^^^ aim.toNat : Nat) : Int) else -1 := by
  refine rpF_u (by omega) (fun b hb2 => ?_)
  have e1 := xor_upd (f := f) (b := (b : Int)) s0 hp (e - s).toNat (by omega)
  have r1 := ckE_rng (kind := 2) (Or.inl rfl) (zup_by (p := p) (b := (b : Int)) hb (by omega) (by omega)) s0 (e - s).toNat (by omega)
  have e2 := xr_iff (ckE 2 f s (e - s).toNat).toNat (f p).toNat b aim.toNat
  rw [Int.toNat_natCast] at e1
  unfold ckX
  constructor
  · intro w
    have w2 : ((ckE 2 f s (e - s).toNat).toNat ^^^ (f p).toNat) ^^^ b = aim.toNat := by rw [← e1, w]
    have w3 := e2.mp w2
    omega
  · intro w
    have w3 : b = ((f p).toNat ^^^ (ckE 2 f s (e - s).toNat).toNat) ^^^ aim.toNat := by omega
    have w2 := e2.mpr w3
    rw [← e1] at w2
    omega
theorem rpF_3 {f : Nat → Int} {s e aim len : Int} {p : Nat} (hb : byOk f len) (s0 : 0 ≤ s) (hp : s ≤ p) (pe : (p : Int) < e) (el : e ≤ len) (a0 : 0 ≤ aim) (a1 : aim < 65536) : rpF 3 f s e aim p = if (f p + aim - ckX 3 f s e) % 65536 ≤ 255 then (f p + aim - ckX 3 f s e) % 65536 else -1 := by
  refine rpF_u (by omega) (fun b hb2 => ?_)
  have e1 := sum_upd (f := f) (b := (b : Int)) s0 hp (e - s).toNat (by omega)
  unfold ckX
  rw [e1]
  omega
/-! the register of the third kind -/
def ckG (f : Nat → Int) : Nat → Nat → Int → Int
  | _, 0, r => r
  | p, k + 1, r => ckG f (p + 1) k (cF r (f p))
theorem ckE_4 (f : Nat → Int) (s : Int) (k : Nat) : ckE 4 f s (k + 1) = cF (ckE 4 f s k) (f (s + k).toNat) := by
  rw [ckE, ckA, if_neg (by omega), if_neg (by omega)]
theorem ckG_E {f : Nat → Int} {s : Int} (s0 : 0 ≤ s) : ∀ m k : Nat, ckE 4 f s (k + m) = ckG f (s + k).toNat m (ckE 4 f s k)
  | 0, k => rfl
  | m + 1, k => by
    rw [show k + (m + 1) = (k + 1) + m by omega, ckG_E s0 m (k + 1), ckE_4, ckG, show (s + ((k + 1 : Nat) : Int)).toNat = (s + (k : Int)).toNat + 1 by omega]
theorem ckG_congr {f g : Nat → Int} : ∀ (k p : Nat) (r : Int), (∀ j, p ≤ j → j < p + k → f j = g j) → ckG f p k r = ckG g p k r
  | 0, _, _, _ => rfl
  | k + 1, p, r, h => by rw [ckG, ckG, h p (by omega) (by omega), ckG_congr k (p + 1) _ (fun j h1 h2 => h j (by omega) (by omega))]
theorem xr_can {a b y : Nat} (e : a ^^^ y = b ^^^ y) : a = b := by
  have q := congrArg (fun z => z ^^^ y) e
  simp only [Nat.xor_assoc, Nat.xor_self, Nat.xor_zero] at q
  exact q
theorem cF_inj {r q b : Int} (r0 : 0 ≤ r) (r1 : r < 65536) (q0 : 0 ≤ q) (q1 : q < 65536) (b0 : 0 ≤ b) (b1 : b ≤ 255) (e : cF r b = cF q b) : r = q := by
  unfold cF at e
  have e9 : crI 8 (r.toNat ^^^ (256 * b.toNat)) = crI 8 (q.toNat ^^^ (256 * b.toNat)) := by omega
  have e := congrArg (chI 8) e9
  rw [chI_crI (xor16 (by omega) (by omega)), chI_crI (xor16 (by omega) (by omega))] at e
  have := xr_can e
  omega
theorem ckG_inj {f : Nat → Int} {len : Int} (hb : byOk f len) : ∀ (k p : Nat) (r q : Int), ((p + k : Nat) : Int) ≤ len → 0 ≤ r → r < 65536 → 0 ≤ q → q < 65536 → ckG f p k r = ckG f p k q → r = q
  | 0, _, _, _, _, _, _, _, _, e => e
  | k + 1, p, r, q, hl, r0, r1, q0, q1, e => by
    have y := hb p (by omega)
    have a := cF_rng r0 r1 y.1 y.2
    have c := cF_rng q0 q1 y.1 y.2
    exact cF_inj r0 r1 q0 q1 y.1 y.2 (ckG_inj hb k (p + 1) _ _ (by omega) a.1 a.2 c.1 c.2 e)
theorem ckX_4u {f : Nat → Int} {s e b : Int} {p : Nat} (s0 : 0 ≤ s) (hp : s ≤ p) (pe : (p : Int) < e) : ckX 4 (zup f p b) s e = ckG f (p + 1) (e - 1 - p).toNat (cF (ckE 4 f s (p - s).toNat) b) := by
  unfold ckX
  have e1 : (e - s).toNat = ((p - s).toNat + 1) + (e - 1 - p).toNat := by omega
  have e2 : (s + (((p : Int) - s).toNat : Int)).toNat = p := by omega
  have e3 : (s + ((((p : Int) - s).toNat + 1 : Nat) : Int)).toNat = p + 1 := by omega
  have eu : zup f p b p = b := by unfold zup; rw [if_pos rfl]
  rw [e1, ckG_E s0, ckE_4, e2, e3, eu, ckE_bef s0 (by omega)]
  exact ckG_congr _ _ _ (fun j h1 h2 => by unfold zup; rw [if_neg (by omega)])
theorem crc_iff {r nd b : Int} (r0 : 0 ≤ r) (r1 : r < 65536) (n0 : 0 ≤ nd) (n1 : nd < 65536) (b0 : 0 ≤ b) (b1 : b ≤ 255) : cF r b = nd ↔ 256 * b = ((chI 8 nd.toNat ^^^ r.toNat : Nat) : Int) := by
  have hx := xor16 (a := r.toNat) (b := 256 * b.toNat) (by omega) (by omega)
  constructor
  · intro e
    have e2 : crI 8 (r.toNat ^^^ (256 * b.toNat)) = nd.toNat := by unfold cF at e; omega
    have e3 := congrArg (chI 8) e2
    rw [chI_crI hx] at e3
    rw [← e3, Nat.xor_comm r.toNat, Nat.xor_assoc, Nat.xor_self, Nat.xor_zero]
    omega
  · intro e
    have e2 : 256 * b.toNat = chI 8 nd.toNat ^^^ r.toNat := by omega
    unfold cF
    rw [e2, Nat.xor_comm (chI 8 nd.toNat) r.toNat, ← Nat.xor_assoc, Nat.xor_self, Nat.zero_xor, crI_chI (by omega)]
    omega
theorem rpF_4 {f : Nat → Int} {s e aim nd len : Int} {p D : Nat} (hb : byOk f len) (s0 : 0 ≤ s) (hp : s ≤ p) (pe : (p : Int) < e) (el : e ≤ len) (n0 : 0 ≤ nd) (n1 : nd < 65536) (g : ckG f (p + 1) (e - 1 - p).toNat nd = aim) (eD : D = chI 8 nd.toNat ^^^ (ckE 4 f s (p - s).toNat).toNat) : rpF 4 f s e aim p = if (if D % 256 = 0 then ((D / 256 : Nat) : Int) else 256) ≤ 255 then (if D % 256 = 0 then ((D / 256 : Nat) : Int) else 256) else -1 := by
  refine rpF_u (by split <;> omega) (fun b hb2 => ?_)
  have r := ckE_rng (kind := 4) (Or.inr (Or.inr rfl)) hb s0 (p - s).toNat (by omega)
  have c := cF_rng (b := (b : Int)) r.1 r.2 (by omega) (by omega)
  have i := crc_iff (b := (b : Int)) r.1 r.2 n0 n1 (by omega) (by omega)
  rw [← eD] at i
  rw [ckX_4u s0 hp pe]
  have j : ckG f (p + 1) (e - 1 - p).toNat (cF (ckE 4 f s (p - s).toNat) b) = aim ↔ cF (ckE 4 f s (p - s).toNat) b = nd := by
    constructor
    · intro w
      exact ckG_inj hb _ _ _ _ (by omega) c.1 c.2 n0 n1 (w.trans g.symm)
    · intro w
      rw [w]; exact g
  rw [j, i]
  by_cases z : D % 256 = 0
  · rw [if_pos z]; omega
  · rw [if_neg z]; omega
theorem crc_back {f : Nat → Int} {nd : Int} {p k : Nat} (n0 : 0 ≤ nd) (n1 : nd < 65536) (y0 : 0 ≤ f p) (y1 : f p ≤ 255) : ckG f p (k + 1) ((chI 8 nd.toNat ^^^ (256 * (f p).toNat) : Nat) : Int) = ckG f (p + 1) k nd := by
  rw [ckG]
  unfold cF
  rw [Int.toNat_natCast, Nat.xor_assoc, Nat.xor_self, Nat.xor_zero, crI_chI (by omega), show ((nd.toNat : Nat) : Int) = nd by omega]
theorem zxor_neg {x : Int} (hx : zII x) (h : x < 0) : zxor x 65536 < 0 := by
  have h1 := hx.1
  have e : (BitVec.ofInt 32 x).toInt = x := by rw [BitVec.toInt_ofInt]; exact w32_of hx
  have m1 : (BitVec.ofInt 32 x).msb = true := by rw [BitVec.msb_eq_toInt, e]; exact decide_eq_true h
  have m2 : (BitVec.ofInt 32 65536).msb = false := by decide
  have m : (BitVec.ofInt 32 x ^^^ BitVec.ofInt 32 65536).msb = true := by rw [BitVec.msb_xor, m1, m2]; rfl
  rw [BitVec.msb_eq_toInt] at m
  exact of_decide_eq_true m
