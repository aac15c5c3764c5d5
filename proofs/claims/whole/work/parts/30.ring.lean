/-! mathematics: sums in a commutative ring, and the ring of its power series -/
section
variable {K : Type}
def sm (R : Lean.Grind.CommRing K) : Nat → (Nat → K) → K
  | 0, _ => letI := R; 0
  | n + 1, f => letI := R; sm R n f + f n
theorem sm_congr (R : Lean.Grind.CommRing K) {n : Nat} {f g : Nat → K} (h : ∀ i, i < n → f i = g i) : sm R n f = sm R n g := by
  induction n with
  | zero => rfl
  | succ n ih => letI := R; show sm R n f + f n = sm R n g + g n; rw [ih (fun i hi => h i (by omega)), h n (by omega)]
theorem sm_add (R : Lean.Grind.CommRing K) (n : Nat) (f g : Nat → K) : letI := R; sm R n (fun i => f i + g i) = sm R n f + sm R n g := by
  letI := R
  induction n with
  | zero => show (0 : K) = 0 + 0; grind
  | succ n ih => show sm R n (fun i => f i + g i) + (f n + g n) = sm R n f + f n + (sm R n g + g n); rw [ih]; grind
theorem sm_mul (R : Lean.Grind.CommRing K) (n : Nat) (c : K) (f : Nat → K) : letI := R; sm R n (fun i => c * f i) = c * sm R n f := by
  letI := R
  induction n with
  | zero => show (0 : K) = c * 0; grind
  | succ n ih => show sm R n (fun i => c * f i) + c * f n = c * (sm R n f + f n); rw [ih]; grind
theorem sm_mulr (R : Lean.Grind.CommRing K) (n : Nat) (c : K) (f : Nat → K) : letI := R; sm R n (fun i => f i * c) = sm R n f * c := by
  letI := R
  have := sm_mul R n c f
  rw [show sm R n f * c = c * sm R n f by grind, ← this]
  exact sm_congr R (fun i _ => by grind)
theorem sm_zero (R : Lean.Grind.CommRing K) {n : Nat} {f : Nat → K} (h : letI := R; ∀ i, i < n → f i = 0) : letI := R; sm R n f = 0 := by
  letI := R
  induction n with
  | zero => rfl
  | succ n ih => show sm R n f + f n = 0; rw [ih (fun i hi => h i (by omega)), h n (by omega)]; grind
theorem sm_front (R : Lean.Grind.CommRing K) (n : Nat) (f : Nat → K) : letI := R; sm R (n + 1) f = f 0 + sm R n (fun i => f (i + 1)) := by
  letI := R
  induction n with
  | zero => show sm R 0 f + f 0 = f 0 + 0; show 0 + f 0 = f 0 + 0; grind
  | succ n ih => show sm R (n + 1) f + f (n + 1) = f 0 + (sm R n (fun i => f (i + 1)) + f (n + 1)); rw [ih]; grind
theorem sm_rev (R : Lean.Grind.CommRing K) (n : Nat) (f : Nat → K) : sm R n f = sm R n (fun i => f (n - 1 - i)) := by
  letI := R
  induction n with
  | zero => rfl
  | succ n ih =>
    rw [sm_front R n (fun i => f (n + 1 - 1 - i))]
    show sm R n f + f n = f n + sm R n (fun i => f (n - (i + 1)))
    have e : sm R n f = sm R n (fun i => f (n - (i + 1))) := ih.trans (sm_congr R (fun i hi => by rw [show n - 1 - i = n - (i + 1) by omega]))
    rw [e]
    grind
theorem sm_tri (R : Lean.Grind.CommRing K) (F : Nat → Nat → K) (n : Nat) : sm R (n + 1) (fun i => sm R (i + 1) (fun j => F j (i - j))) = sm R (n + 1) (fun j => sm R (n + 1 - j) (fun k => F j k)) := by
  letI := R
  induction n with
  | zero => rfl
  | succ n ih =>
    show sm R (n + 1) _ + sm R (n + 2) (fun j => F j (n + 1 - j)) = sm R (n + 1) (fun j => sm R (n + 1 + 1 - j) (fun k => F j k)) + sm R (n + 1 + 1 - (n + 1)) (fun k => F (n + 1) k)
    rw [ih]
    have e1 : sm R (n + 1) (fun j => sm R (n + 1 + 1 - j) (fun k => F j k)) = sm R (n + 1) (fun j => sm R (n + 1 - j) (fun k => F j k)) + sm R (n + 1) (fun j => F j (n + 1 - j)) := by
      rw [← sm_add R]
      refine sm_congr R (fun j hj => ?_)
      rw [show n + 1 + 1 - j = (n + 1 - j) + 1 by omega]
      rfl
    rw [e1, show n + 1 + 1 - (n + 1) = 1 by omega]
    show _ + (sm R (n + 1) (fun j => F j (n + 1 - j)) + F (n + 1) (n + 1 - (n + 1))) = _ + (0 + F (n + 1) 0)
    rw [show n + 1 - (n + 1) = 0 by omega]
    grind
theorem sm_swap (R : Lean.Grind.CommRing K) (F : Nat → Nat → K) (n m : Nat) : sm R n (fun i => sm R m (fun j => F i j)) = sm R m (fun j => sm R n (fun i => F i j)) := by
  letI := R
  induction n with
  | zero => exact (sm_zero R (fun _ _ => rfl)).symm
  | succ n ih =>
    show sm R n _ + sm R m (fun j => F n j) = sm R m (fun j => sm R n (fun i => F i j) + F n j)
    rw [ih, sm_add R]
theorem sm_sub (R : Lean.Grind.CommRing K) (n : Nat) (f g : Nat → K) : letI := R; sm R n (fun i => f i - g i) = sm R n f - sm R n g := by
  letI := R
  induction n with
  | zero => show (0 : K) = 0 - 0; grind
  | succ n ih => show sm R n (fun i => f i - g i) + (f n - g n) = sm R n f + f n - (sm R n g + g n); rw [ih]; grind
/-- power series: the product, a number as a series -/
def zmul (R : Lean.Grind.CommRing K) (a b : Nat → K) : Nat → K := fun k => letI := R; sm R (k + 1) (fun i => a i * b (k - i))
def zc (R : Lean.Grind.CommRing K) (c : K) : Nat → K := fun k => letI := R; if k = 0 then c else 0
theorem zmul_comm (R : Lean.Grind.CommRing K) (a b : Nat → K) : zmul R a b = zmul R b a := funext fun k => by
  letI := R
  show sm R (k + 1) _ = sm R (k + 1) _
  rw [sm_rev]
  refine sm_congr R (fun i hi => ?_)
  rw [show k + 1 - 1 - i = k - i by omega, show k - (k - i) = i by omega]
  grind
theorem zmul_assoc (R : Lean.Grind.CommRing K) (a b c : Nat → K) : zmul R (zmul R a b) c = zmul R a (zmul R b c) := funext fun n => by
  letI := R
  show sm R (n + 1) (fun i => sm R (i + 1) (fun j => a j * b (i - j)) * c (n - i)) = sm R (n + 1) (fun j => a j * sm R (n - j + 1) (fun k => b k * c (n - j - k)))
  have e1 : sm R (n + 1) (fun i => sm R (i + 1) (fun j => a j * b (i - j)) * c (n - i)) = sm R (n + 1) (fun i => sm R (i + 1) (fun j => (fun j k => a j * b k * c (n - j - k)) j (i - j))) := by
    refine sm_congr R (fun i hi => ?_)
    rw [← sm_mulr R]
    refine sm_congr R (fun j hj => ?_)
    show a j * b (i - j) * c (n - i) = a j * b (i - j) * c (n - j - (i - j))
    rw [show n - j - (i - j) = n - i by omega]
  refine e1.trans ((sm_tri R (fun j k => a j * b k * c (n - j - k)) n).trans ?_)
  refine sm_congr R (fun j hj => ?_)
  rw [show n + 1 - j = n - j + 1 by omega, ← sm_mul R]
  exact sm_congr R (fun k hk => by grind)
theorem zmul_add (R : Lean.Grind.CommRing K) (a b c : Nat → K) : letI := R; zmul R a (fun k => b k + c k) = fun k => zmul R a b k + zmul R a c k := funext fun n => by
  letI := R
  show sm R (n + 1) (fun i => a i * (b (n - i) + c (n - i))) = sm R (n + 1) _ + sm R (n + 1) _
  rw [← sm_add R]
  exact sm_congr R (fun i _ => by grind)
theorem zmul_c (R : Lean.Grind.CommRing K) (c : K) (a : Nat → K) (n : Nat) : letI := R; zmul R (zc R c) a n = c * a n := by
  letI := R
  show sm R (n + 1) (fun i => zc R c i * a (n - i)) = c * a n
  rw [sm_front R]
  have : sm R n (fun i => zc R c (i + 1) * a (n - (i + 1))) = 0 := sm_zero R (fun i _ => by
    show (if i + 1 = 0 then c else 0) * _ = 0
    rw [if_neg (by omega)]
    grind)
  rw [this]
  show c * a (n - 0) + 0 = c * a n
  rw [Nat.sub_zero]
  grind
theorem zmul_one (R : Lean.Grind.CommRing K) (a : Nat → K) : letI := R; zmul R (zc R 1) a = a := funext fun n => by
  letI := R
  rw [zmul_c R]
  grind
/-- the ring of power series, for the solver: used as a local word in proofs -/
def zR (R : Lean.Grind.CommRing K) : Lean.Grind.CommRing (Nat → K) :=
  letI := R
  letI : NatCast K := Lean.Grind.Semiring.natCast
  letI : IntCast K := Lean.Grind.Ring.intCast
  { add := fun a b k => a k + b k
    mul := zmul R
    neg := fun a k => - a k
    sub := fun a b k => a k - b k
    natCast := ⟨fun n => zc R (Nat.cast n)⟩
    ofNat := fun n => ⟨zc R (OfNat.ofNat n)⟩
    nsmul := ⟨fun n a => zmul R (zc R (Nat.cast n)) a⟩
    npow := ⟨fun a n => Nat.rec (zc R 1) (fun _ r => zmul R r a) n⟩
    intCast := ⟨fun n => zc R (Int.cast n)⟩
    zsmul := ⟨fun n a => zmul R (zc R (Int.cast n)) a⟩
    add_zero := fun a => funext fun k => by show a k + (if k = 0 then (0 : K) else 0) = a k; split <;> grind
    add_comm := fun a b => funext fun k => by show a k + b k = b k + a k; grind
    add_assoc := fun a b c => funext fun k => by show a k + b k + c k = a k + (b k + c k); grind
    mul_assoc := zmul_assoc R
    mul_one := fun a => by show zmul R a (zc R 1) = a; rw [zmul_comm, zmul_one R]
    one_mul := zmul_one R
    left_distrib := zmul_add R
    right_distrib := fun a b c => by
      show zmul R (fun k => a k + b k) c = fun k => zmul R a c k + zmul R b c k
      rw [zmul_comm, zmul_add R, zmul_comm R c a, zmul_comm R c b]
    zero_mul := fun a => funext fun k => by show zmul R (zc R 0) a k = zc R 0 k; rw [zmul_c R]; show 0 * a k = if k = 0 then (0 : K) else 0; split <;> grind
    mul_zero := fun a => funext fun k => by show zmul R a (zc R 0) k = zc R 0 k; rw [zmul_comm, zmul_c R]; show 0 * a k = if k = 0 then (0 : K) else 0; split <;> grind
    mul_comm := zmul_comm R
    pow_zero := fun a => rfl
    pow_succ := fun a n => rfl
    ofNat_succ := fun n => funext fun k => by
      show zc R (OfNat.ofNat (n + 1)) k = zc R (OfNat.ofNat n) k + zc R 1 k
      unfold zc
      split
      · exact Lean.Grind.Semiring.ofNat_succ n
      · grind
    ofNat_eq_natCast := fun n => by show zc R (OfNat.ofNat n) = zc R (Nat.cast n); rw [Lean.Grind.Semiring.ofNat_eq_natCast]
    nsmul_eq_natCast_mul := fun n a => rfl
    neg_add_cancel := fun a => funext fun k => by show - a k + a k = (if k = 0 then (0 : K) else 0); split <;> grind
    sub_eq_add_neg := fun a b => funext fun k => by show a k - b k = a k + - b k; grind
    neg_zsmul := fun i a => funext fun k => by show zmul R (zc R (Int.cast (-i))) a k = - zmul R (zc R (Int.cast i)) a k; rw [zmul_c R, zmul_c R, Lean.Grind.Ring.intCast_neg]; grind
    zsmul_natCast_eq_nsmul := fun n a => by show zmul R (zc R (Int.cast (n : Int))) a = zmul R (zc R (Nat.cast n)) a; rw [Lean.Grind.Ring.intCast_natCast]
    intCast_ofNat := fun n => by show zc R (Int.cast (OfNat.ofNat n : Int)) = zc R (OfNat.ofNat n); rw [Lean.Grind.Ring.intCast_ofNat]
    intCast_neg := fun i => funext fun k => by show zc R (Int.cast (-i)) k = - zc R (Int.cast i) k; unfold zc; split <;> (try rw [Lean.Grind.Ring.intCast_neg]) <;> grind }
end
