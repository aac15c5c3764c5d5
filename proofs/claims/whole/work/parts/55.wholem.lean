/-! the acts of polynomials in x and y -/
section
variable {p : Nat}
theorem NM_of (h : prm p) {F : Pxy p} {g : Int → Int} (hb : ∀ k, 0 ≤ k → k < 287 → 0 ≤ g k ∧ g k < p) (hz : ∀ j i : Nat, j ≤ 6 → i ≤ 40 → zi h (g ((j : Int) * 41 + i)) = F j i) (hB : PB h F) : NM F g := by
  have := fF_NM h hb
  rw [fF_of h hB hz] at this
  exact this
theorem em_in (h : prm p) (a : Int) : 0 ≤ a % (p : Int) ∧ a % (p : Int) < p := by
  have := h.1
  exact ⟨Int.emod_nonneg _ (by omega), Int.emod_lt_of_pos _ (by omega)⟩
/-- F + s G -/
def cmb (h : prm p) (s : Int) (F G : Pxy p) : Pxy p := fun j i => letI := fR h; F j i + zi h s * G j i
theorem cmb_PB (h : prm p) {F G : Pxy p} (s : Int) (hF : PB h F) (hG : PB h G) : PB h (cmb h s F G) := fun j i hji => by
  letI := fR h
  show F j i + zi h s * G j i = 0
  rw [hF j i hji, hG j i hji]; grind
theorem cmb_NM (h : prm p) {F G : Pxy p} {s : Int} {f g t : Int → Int} (hF : NM F f) (hG : NM G g) (bF : PB h F) (bG : PB h G) (ht : ∀ k, 0 ≤ k → k < 287 → t k = (f k + s * g k) % p) : NM (cmb h s F G) t := by
  refine NM_of h (fun k k0 k1 => by rw [ht k k0 k1]; exact em_in h _) (fun j i hj hi => ?_) (cmb_PB h s bF bG)
  rw [ht _ (by omega) (by omega), zi_mod, zi_add, zi_mul, hF.zi h hj hi, hG.zi h hj hi]; rfl
/-- derivatives -/
def dvx (h : prm p) (F : Pxy p) : Pxy p := fun j i => letI := fR h; zi h ((i : Int) + 1) * F j (i + 1)
def dvy (h : prm p) (F : Pxy p) : Pxy p := fun j i => letI := fR h; zi h ((j : Int) + 1) * F (j + 1) i
theorem dvx_PB (h : prm p) {F : Pxy p} (hF : PB h F) : PB h (dvx h F) := fun j i hji => by
  letI := fR h
  show zi h ((i : Int) + 1) * F j (i + 1) = 0
  rw [hF j (i + 1) (by omega)]; grind
theorem dvy_PB (h : prm p) {F : Pxy p} (hF : PB h F) : PB h (dvy h F) := fun j i hji => by
  letI := fR h
  show zi h ((j : Int) + 1) * F (j + 1) i = 0
  rw [hF (j + 1) i (by omega)]; grind
/-- what derive leaves: the numbers before t are done -/
def dL (p : Nat) (f g : Int → Int) (st : Int) (mu : Int → Int) (t : Int) : Int → Int := fun m => if 0 ≤ m ∧ m + st < t then f (m + st) * mu (m + st) % p else g m
theorem dL_0 (f g : Int → Int) (st : Int) (mu : Int → Int) : dL p f g st mu st = g := funext fun m => by unfold dL; rw [if_neg (by omega)]
theorem dL_s (f g : Int → Int) {st t : Int} (mu : Int → Int) (ht : st ≤ t) : gup (dL p f g st mu t) (t - st) (f t * mu t % p) = dL p f g st mu (t + 1) := funext fun m => by
  unfold gup dL
  by_cases z : m = t - st
  · subst z; rw [if_pos rfl, if_pos (by omega), show t - st + st = t by omega]
  · rw [if_neg z]
    by_cases w : 0 ≤ m ∧ m + st < t
    · rw [if_pos w, if_pos (by omega)]
    · rw [if_neg w, if_neg (by omega)]
theorem dL_x (f : Int → Int) {g : Int → Int} (hg : ∀ k, 0 ≤ k → k < 287 → g k = 0) {j : Int} (hj : 0 ≤ j) (hj2 : j < 7) : dL p f g 1 (fun m => m % 41) (j * 41) = dL p f g 1 (fun m => m % 41) (j * 41 + 1) := funext fun m => by
  unfold dL
  by_cases z : 0 ≤ m ∧ m + 1 < j * 41
  · rw [if_pos z, if_pos (by omega)]
  · rw [if_neg z]
    by_cases w : 0 ≤ m ∧ m + 1 < j * 41 + 1
    · rw [if_pos w, hg m (by omega) (by omega)]
      show 0 = f (m + 1) * ((m + 1) % 41) % p
      rw [show (m + 1) % 41 = 0 by omega, Int.mul_zero, Int.zero_emod]
    · rw [if_neg w]
theorem dL_NMx (h : prm p) {F : Pxy p} {f g : Int → Int} (hF : NM F f) (bF : PB h F) (hg : ∀ k, 0 ≤ k → k < 287 → g k = 0) : NM (dvx h F) (dL p f g 1 (fun m => m % 41) 287) := by
  have hp := h.1
  refine NM_of h (fun k k0 k1 => ?_) (fun j i hj hi => ?_) (dvx_PB h bF)
  · unfold dL
    split
    · exact em_in h _
    · rw [hg k k0 k1]; omega
  · unfold dL
    letI := fR h
    show _ = zi h ((i : Int) + 1) * F j (i + 1)
    by_cases z : (j : Int) * 41 + i + 1 < 287
    · rw [if_pos ⟨by omega, z⟩]
      show zi h (f ((j : Int) * 41 + i + 1) * (((j : Int) * 41 + i + 1) % 41) % p) = _
      rw [zi_mod, zi_mul]
      by_cases y : i = 40
      · rw [show ((j : Int) * 41 + i + 1) % 41 = 0 by omega, zi_0 h, bF j (i + 1) (by omega)]; grind
      · rw [show (j : Int) * 41 + i + 1 = (j : Int) * 41 + ((i + 1 : Nat) : Int) by omega, hF.zi h hj (by omega), show ((j : Int) * 41 + ((i + 1 : Nat) : Int)) % 41 = (i : Int) + 1 by omega]; grind
    · rw [if_neg (by omega), hg _ (by omega) (by omega), zi_0 h, bF j (i + 1) (by omega)]; grind
theorem dL_NMy (h : prm p) {F : Pxy p} {f g : Int → Int} (hF : NM F f) (bF : PB h F) (hg : ∀ k, 0 ≤ k → k < 287 → g k = 0) : NM (dvy h F) (dL p f g 41 (fun m => m / 41) 287) := by
  have hp := h.1
  refine NM_of h (fun k k0 k1 => ?_) (fun j i hj hi => ?_) (dvy_PB h bF)
  · unfold dL
    split
    · exact em_in h _
    · rw [hg k k0 k1]; omega
  · unfold dL
    letI := fR h
    show _ = zi h ((j : Int) + 1) * F (j + 1) i
    by_cases z : (j : Int) * 41 + i + 41 < 287
    · rw [if_pos ⟨by omega, z⟩]
      show zi h (f ((j : Int) * 41 + i + 41) * (((j : Int) * 41 + i + 41) / 41) % p) = _
      rw [zi_mod, zi_mul, show (j : Int) * 41 + i + 41 = ((j + 1 : Nat) : Int) * 41 + i by omega, hF.zi h (by omega) hi, show (((j + 1 : Nat) : Int) * 41 + i) / 41 = (j : Int) + 1 by omega]; grind
    · rw [if_neg (by omega), hg _ (by omega) (by omega), zi_0 h, bF (j + 1) i (by omega)]; grind
/-- a slice is added -/
def slx (h : prm p) (A H : Pxy p) (k : Nat) : Pxy p := fun j i => letI := fR h; H j i + (if i = 0 then A j k else 0)
def sly (h : prm p) (A H : Pxy p) (k : Nat) : Pxy p := fun j i => letI := fR h; H j i + (if j = 0 then A k i else 0)
theorem slx_PB (h : prm p) {A H : Pxy p} (k : Nat) (hA : PB h A) (hH : PB h H) : PB h (slx h A H k) := fun j i hji => by
  letI := fR h
  show H j i + (if i = 0 then A j k else 0) = 0
  rw [hH j i hji]
  by_cases z : i = 0
  · rw [if_pos z, hA j k (by omega)]; grind
  · rw [if_neg z]; grind
theorem sly_PB (h : prm p) {A H : Pxy p} (k : Nat) (hA : PB h A) (hH : PB h H) : PB h (sly h A H k) := fun j i hji => by
  letI := fR h
  show H j i + (if j = 0 then A k i else 0) = 0
  rw [hH j i hji]
  by_cases z : j = 0
  · rw [if_pos z, hA k i (by omega)]; grind
  · rw [if_neg z]; grind
def sX (p : Nat) (g f : Int → Int) (k n : Int) : Int → Int := fun m => if 0 ≤ m ∧ m < n * 41 ∧ m % 41 = 0 then (g m + f (k + m)) % p else g m
theorem sX_0 (g f : Int → Int) (k : Int) : sX p g f k 0 = g := funext fun m => by unfold sX; rw [if_neg (by omega)]
theorem sX_at (g f : Int → Int) (k n : Int) : sX p g f k n (n * 41) = g (n * 41) := by unfold sX; rw [if_neg (by omega)]
theorem sX_s (g f : Int → Int) {k n : Int} (hn : 0 ≤ n) : gup (sX p g f k n) (n * 41) ((g (n * 41) + f (k + n * 41)) % p) = sX p g f k (n + 1) := funext fun m => by
  unfold gup sX
  by_cases z : m = n * 41
  · subst z; rw [if_pos rfl, if_pos (by omega)]
  · rw [if_neg z]
    by_cases w : 0 ≤ m ∧ m < n * 41 ∧ m % 41 = 0
    · rw [if_pos w, if_pos (by omega)]
    · rw [if_neg w, if_neg (by omega)]
theorem sX_NM (h : prm p) {A H : Pxy p} {f g : Int → Int} {k : Int} (k0 : 0 ≤ k) (k1 : k ≤ 40) (hA : NM A f) (hH : NM H g) (bA : PB h A) (bH : PB h H) : NM (slx h A H k.toNat) (sX p g f k 7) := by
  refine NM_of h (fun m m0 m1 => ?_) (fun j i hj hi => ?_) (slx_PB h _ bA bH)
  · unfold sX
    split
    · exact em_in h _
    · exact hH.bd (h := h) h m0 m1
  · unfold sX
    letI := fR h
    show _ = H j i + (if i = 0 then A j k.toNat else 0)
    by_cases z : i = 0
    · rw [if_pos (by omega), if_pos z, zi_mod, zi_add, hH.zi h hj hi, show k + ((j : Int) * 41 + i) = (j : Int) * 41 + ((k.toNat : Nat) : Int) by omega, hA.zi h hj (by omega)]
    · rw [if_neg (by omega), if_neg z, hH.zi h hj hi]; grind
def sY (p : Nat) (g f : Int → Int) (k n : Int) : Int → Int := fun m => if 0 ≤ m ∧ m < n then (g m + f (k * 41 + m)) % p else g m
theorem sY_0 (g f : Int → Int) (k : Int) : sY p g f k 0 = g := funext fun m => by unfold sY; rw [if_neg (by omega)]
theorem sY_at (g f : Int → Int) (k n : Int) : sY p g f k n n = g n := by unfold sY; rw [if_neg (by omega)]
theorem sY_s (g f : Int → Int) {k n : Int} (hn : 0 ≤ n) : gup (sY p g f k n) n ((g n + f (k * 41 + n)) % p) = sY p g f k (n + 1) := funext fun m => by
  unfold gup sY
  by_cases z : m = n
  · subst z; rw [if_pos rfl, if_pos (by omega)]
  · rw [if_neg z]
    by_cases w : 0 ≤ m ∧ m < n
    · rw [if_pos w, if_pos (by omega)]
    · rw [if_neg w, if_neg (by omega)]
theorem sY_NM (h : prm p) {A H : Pxy p} {f g : Int → Int} {k : Int} (k0 : 0 ≤ k) (k1 : k ≤ 6) (hA : NM A f) (hH : NM H g) (bA : PB h A) (bH : PB h H) : NM (sly h A H k.toNat) (sY p g f k 41) := by
  refine NM_of h (fun m m0 m1 => ?_) (fun j i hj hi => ?_) (sly_PB h _ bA bH)
  · unfold sY
    split
    · exact em_in h _
    · exact hH.bd (h := h) h m0 m1
  · unfold sY
    letI := fR h
    show _ = H j i + (if j = 0 then A k.toNat i else 0)
    by_cases z : j = 0
    · rw [if_pos (by omega), if_pos z, zi_mod, zi_add, hH.zi h hj hi, show k * 41 + ((j : Int) * 41 + i) = ((k.toNat : Nat) : Int) * 41 + i by omega, hA.zi h (by omega) hi]
    · rw [if_neg (by omega), if_neg z, hH.zi h hj hi]; grind
/-- products in x and y -/
abbrev yR (h : prm p) : Lean.Grind.CommRing (Pxy p) := zR (pR h)
abbrev yml (h : prm p) (F G : Pxy p) : Pxy p := zmul (pR h) F G
/-- c x^i y^j -/
def mo2 (h : prm p) (c : Fp p) (j i : Nat) : Pxy p := xm (pR h) (xm (fR h) c i) j
theorem mo2_mul (h : prm p) (c : Fp p) (j i : Nat) (G : Pxy p) (J I : Nat) : letI := fR h; yml h (mo2 h c j i) G J I = if j ≤ J ∧ i ≤ I then c * G (J - j) (I - i) else 0 := by
  letI := pR h
  have e : yml h (mo2 h c j i) G J = if j ≤ J then xm (fR h) c i * G (J - j) else 0 := xm_mul (pR h) _ j G J
  rw [e]
  by_cases z : j ≤ J
  · rw [if_pos z]
    have e2 := xm_mul (fR h) c i (G (J - j)) I
    show zmul (fR h) (xm (fR h) c i) (G (J - j)) I = _
    rw [e2]
    by_cases y : i ≤ I
    · rw [if_pos y, if_pos ⟨z, y⟩]
    · rw [if_neg y, if_neg (fun q => y q.2)]
  · rw [if_neg z, if_neg (fun q => z q.1), zero_k]
/-- the first t numbers -/
def trc (h : prm p) (F : Pxy p) (t : Int) : Pxy p := fun j i => letI := fR h; if (j : Int) * 41 + i < t ∧ i ≤ 40 then F j i else 0
theorem trc_s (h : prm p) (F : Pxy p) {j i : Nat} (hi : i ≤ 40) : letI := yR h; trc h F ((j : Int) * 41 + i + 1) = trc h F ((j : Int) * 41 + i) + mo2 h (F j i) j i := funext fun b => funext fun a => by
  letI := fR h
  show (if (b : Int) * 41 + a < (j : Int) * 41 + i + 1 ∧ a ≤ 40 then F b a else 0) = (if (b : Int) * 41 + a < (j : Int) * 41 + i ∧ a ≤ 40 then F b a else 0) + xm (pR h) (xm (fR h) (F j i) i) j b a
  have e : xm (pR h) (xm (fR h) (F j i) i) j b a = if b = j ∧ a = i then F j i else 0 := by
    letI := pR h
    show (if b = j then xm (fR h) (F j i) i else 0) a = _
    by_cases z : b = j
    · rw [if_pos z]
      show (if a = i then F j i else 0) = _
      by_cases y : a = i
      · rw [if_pos y, if_pos ⟨z, y⟩]
      · rw [if_neg y, if_neg (fun q => y q.2)]
    · rw [if_neg z, if_neg (fun q => z q.1), zero_k]
  rw [e]
  by_cases z : b = j ∧ a = i
  · obtain ⟨rfl, rfl⟩ := z
    rw [if_pos (by omega), if_neg (by omega), if_pos ⟨rfl, rfl⟩]; grind
  · rw [if_neg z]
    by_cases y : (b : Int) * 41 + a < (j : Int) * 41 + i ∧ a ≤ 40
    · rw [if_pos y, if_pos (by omega)]; grind
    · rw [if_neg y, if_neg (by omega)]; grind
theorem trc_0 (h : prm p) (F : Pxy p) : trc h F 0 = zF h := funext fun b => funext fun a => by
  letI := fR h
  show (if (b : Int) * 41 + a < 0 ∧ a ≤ 40 then F b a else 0) = 0
  rw [if_neg (by omega)]
theorem trc_r (h : prm p) {F : Pxy p} (hF : PB h F) {j i : Int} (hi : dX h F < i) (hi2 : i ≤ 41) : trc h F (j * 41 + i) = trc h F ((j + 1) * 41) := funext fun b => funext fun a => by
  letI := fR h
  show (if (b : Int) * 41 + a < j * 41 + i ∧ a ≤ 40 then F b a else 0) = (if (b : Int) * 41 + a < (j + 1) * 41 ∧ a ≤ 40 then F b a else 0)
  by_cases z : (b : Int) * 41 + a < j * 41 + i ∧ a ≤ 40
  · rw [if_pos z, if_pos (by omega)]
  · rw [if_neg z]
    by_cases y : (b : Int) * 41 + a < (j + 1) * 41 ∧ a ≤ 40
    · rw [if_pos y]
      by_cases x : F b a = 0
      · exact x.symm
      · have := hF.dg.1.1 b a x
        omega
    · rw [if_neg y]
theorem trc_e (h : prm p) {F : Pxy p} (hF : PB h F) {j : Int} (hj : dY h F < j) : trc h F (j * 41) = F := funext fun b => funext fun a => by
  letI := fR h
  show (if (b : Int) * 41 + a < j * 41 ∧ a ≤ 40 then F b a else 0) = F b a
  by_cases x : F b a = 0
  · rw [x]; split <;> rfl
  · have := hF.dg.2.1.1 b a x
    have hx := hF.dg.1.1 b a x
    have hd := hF.dg.2.2
    rw [if_pos (by omega)]
theorem yml_PB (h : prm p) {F G : Pxy p} (hF : PB h F) (hG : PB h G) (hx : dX h F + dX h G ≤ 40) (hy : dY h F + dY h G ≤ 6) : PB h (yml h F G) := fun J I hJI => by
  letI := fR h
  have e : yml h F G J I = sm (fR h) (J + 1) (fun j => zmul (fR h) (F j) (G (J - j)) I) := sm_at h (J + 1) _ I
  rw [e]
  refine sm_zero (fR h) (fun j hj => sm_zero (fR h) (fun i hi => ?_))
  by_cases x : F j i = 0
  · rw [x]; grind
  · by_cases y : G (J - j) (I - i) = 0
    · rw [y]; grind
    · have a1 := hF.dg.1.1 j i x
      have a2 := hF.dg.2.1.1 j i x
      have a3 := hG.dg.1.1 _ _ y
      have a4 := hG.dg.2.1.1 _ _ y
      omega
/-- what addShifted leaves: the numbers before t are added -/
def asL (g f : Int → Int) (c sh dx t : Int) : Int → Int := fun k => if 0 ≤ k - sh ∧ k - sh < t ∧ (k - sh) % 41 ≤ dx then g k + c * f (k - sh) else g k
theorem asL_0 (g f : Int → Int) (c sh dx : Int) : asL g f c sh dx 0 = g := funext fun m => by unfold asL; rw [if_neg (by omega)]
theorem asL_z (g f : Int → Int) (sh dx t : Int) : asL g f 0 sh dx t = g := funext fun m => by unfold asL; split <;> simp
theorem asL_s (g f : Int → Int) {c sh dx j i : Int} (hj : 0 ≤ j) (hi : 0 ≤ i) (hi2 : i ≤ dx) (hd : dx ≤ 40) : gup (asL g f c sh dx (j * 41 + i)) (sh + j * 41 + i) (asL g f c sh dx (j * 41 + i) (sh + j * 41 + i) + c * f (j * 41 + i)) = asL g f c sh dx (j * 41 + (i + 1)) := funext fun k => by
  have e1 : asL g f c sh dx (j * 41 + i) (sh + j * 41 + i) = g (sh + j * 41 + i) := by unfold asL; rw [if_neg (by omega)]
  rw [e1]
  unfold gup
  by_cases z : k = sh + j * 41 + i
  · rw [if_pos z]; unfold asL; rw [if_pos (by omega), z, show sh + j * 41 + i - sh = j * 41 + i by omega]
  · rw [if_neg z]
    unfold asL
    by_cases w : 0 ≤ k - sh ∧ k - sh < j * 41 + i ∧ (k - sh) % 41 ≤ dx
    · rw [if_pos w, if_pos (by omega)]
    · rw [if_neg w, if_neg (by omega)]
theorem asL_r (g f : Int → Int) {c sh dx j i : Int} (hi : dx < i) (hi2 : i ≤ 41) (hj : 0 ≤ j) : asL g f c sh dx (j * 41 + i) = asL g f c sh dx ((j + 1) * 41) := funext fun k => by
  unfold asL
  by_cases w : 0 ≤ k - sh ∧ k - sh < j * 41 + i ∧ (k - sh) % 41 ≤ dx
  · rw [if_pos w, if_pos (by omega)]
  · rw [if_neg w, if_neg (by omega)]
theorem zF_0 (h : prm p) : letI := yR h; zF h = 0 := funext fun j => funext fun i => by
  letI := fR h
  rw [zero_k (pR h) j, zero_k (fR h) i]; rfl
/-- the state of the product before place (j, i) -/
def mlI (h : prm p) (F G : Pxy p) (t : Int) (g : Int → Int) : Prop := (∀ J I : Nat, J ≤ 6 → I ≤ 40 → zi h (g ((J : Int) * 41 + I)) = yml h (trc h F t) G J I) ∧ ∀ k, 0 ≤ k → k < 287 → 0 ≤ g k ∧ g k ≤ t * 4294967296
theorem mlI_0 (h : prm p) (F G : Pxy p) {g : Int → Int} (hg : ∀ k, 0 ≤ k → k < 287 → g k = 0) : mlI h F G 0 g := by
  refine ⟨fun J I hJ hI => ?_, fun k k0 k1 => by rw [hg k k0 k1]; omega⟩
  rw [hg _ (by omega) (by omega), trc_0, zi_0 h]
  letI := yR h
  have e : yml h (zF h) G = 0 := by
    rw [zF_0]
    show (0 : Pxy p) * G = 0
    grind
  rw [e, ← zF_0]; rfl
theorem mlI_s (h : prm p) (hp : p ≤ 65536) {F G : Pxy p} {g f : Int → Int} {j i : Nat} {c : Int} (hF : PB h F) (hG : PB h G) (nG : NM G f) (hc : c = cy F j i) (hj : j ≤ 6) (hi : (i : Int) ≤ dX h F) (hx : dX h F + dX h G ≤ 40) (H : mlI h F G ((j : Int) * 41 + i) g) : mlI h F G ((j : Int) * 41 + i + 1) (asL g f c ((j : Int) * 41 + i) (dX h G) ((dY h G + 1) * 41)) := by
  have dF := hF.dg.2.2
  have dG := hG.dg.2.2
  obtain ⟨h1, h2⟩ := H
  refine ⟨fun J I hJ hI => ?_, fun k k0 k1 => ?_⟩
  · rw [trc_s h F (by omega)]
    have e : letI := fR h; yml h (letI := yR h; trc h F ((j : Int) * 41 + i) + mo2 h (F j i) j i) G J I = yml h (trc h F ((j : Int) * 41 + i)) G J I + yml h (mo2 h (F j i) j i) G J I := by
      letI := yR h
      have e3 : (trc h F ((j : Int) * 41 + i) + mo2 h (F j i) j i) * G = trc h F ((j : Int) * 41 + i) * G + mo2 h (F j i) j i * G := by
        generalize trc h F ((j : Int) * 41 + i) = x
        generalize mo2 h (F j i) j i = y
        grind
      exact congrFun (congrFun e3 J) I
    rw [e, ← h1 J I hJ hI, mo2_mul]
    letI := fR h
    unfold asL
    by_cases z : j ≤ J ∧ i ≤ I
    · rw [if_pos z]
      by_cases y : (I : Int) - i ≤ dX h G ∧ (J : Int) - j ≤ dY h G
      · rw [if_pos (by omega), zi_add, zi_mul, hc, cy_zi, show (J : Int) * 41 + I - ((j : Int) * 41 + i) = ((J - j : Nat) : Int) * 41 + ((I - i : Nat) : Int) by omega, nG.zi h (by omega) (by omega)]
      · rw [if_neg (by omega)]
        have : G (J - j) (I - i) = 0 := by
          by_cases x : G (J - j) (I - i) = 0
          · exact x
          · have a3 := hG.dg.1.1 _ _ x
            have a4 := hG.dg.2.1.1 _ _ x
            omega
        rw [this]; grind
    · rw [if_neg z, if_neg (by omega)]; grind
  · have := h2 k k0 k1
    unfold asL
    split
    · have b1 := cy_in h F j i
      have b2 := nG.bd (h := h) h (k := k - ((j : Int) * 41 + i)) (by omega) (by omega)
      have := g_prod b1.1 b1.2 b2.1 b2.2 (show (p : Int) ≤ 65536 by omega)
      rw [hc]
      omega
    · omega
theorem mlI_r (h : prm p) {F G : Pxy p} {g : Int → Int} {j i : Int} (hF : PB h F) (hi : dX h F < i) (hi2 : i ≤ 41) (H : mlI h F G (j * 41 + i) g) : mlI h F G ((j + 1) * 41) g := by
  obtain ⟨h1, h2⟩ := H
  rw [trc_r h hF hi hi2] at h1
  exact ⟨h1, fun k k0 k1 => by have := h2 k k0 k1; omega⟩
theorem mlI_e (h : prm p) {F G : Pxy p} {g t : Int → Int} {j : Int} (hF : PB h F) (hG : PB h G) (hj : dY h F < j) (hx : dX h F + dX h G ≤ 40) (hy : dY h F + dY h G ≤ 6) (H : mlI h F G (j * 41) g) (ht : ∀ k, 0 ≤ k → k < 287 → t k = g k % p) : NM (yml h F G) t := by
  obtain ⟨h1, h2⟩ := H
  rw [trc_e h hF hj] at h1
  exact NM_of h (fun k k0 k1 => by rw [ht k k0 k1]; exact em_in h _) (fun J I hJ hI => by rw [ht _ (by omega) (by omega), zi_mod]; exact h1 J I hJ hI) (yml_PB h hF hG hx hy)
/-- the product where its degrees aren't too high -/
noncomputable def mulC (h : prm p) (F G : Pxy p) : Option (Pxy p) := if dX h F < 0 ∨ dX h G < 0 then some (zF h) else if 40 < dX h F + dX h G ∨ 6 < dY h F + dY h G then none else some (yml h F G)
theorem mulC_PB (h : prm p) {F G H : Pxy p} (hF : PB h F) (hG : PB h G) (e : mulC h F G = some H) : PB h H := by
  unfold mulC at e
  split at e
  · rw [← Option.some.inj e]; exact zF_PB h
  · split at e
    · exact absurd e (by simp)
    · rw [← Option.some.inj e]; exact yml_PB h hF hG (by omega) (by omega)
/-- one polynomial in another's place, from the greatest power down -/
noncomputable def hS (h : prm p) (A G : Pxy p) (fx : Bool) (top : Int) : Nat → Option (Pxy p)
  | 0 => some (zF h)
  | n + 1 => (hS h A G fx top n).bind (fun H => (mulC h H G).map (fun M => if fx then slx h A M (top - n).toNat else sly h A M (top - n).toNat))
theorem hS_none (h : prm p) {A G : Pxy p} {fx : Bool} {top : Int} {n : Nat} (e : hS h A G fx top n = none) : ∀ m, n ≤ m → hS h A G fx top m = none := fun m hm => by
  induction m with
  | zero => rw [show n = 0 by omega] at e; exact e
  | succ m ih =>
    rcases Nat.lt_or_ge m n with z | z
    · rw [show m + 1 = n by omega]; exact e
    · show (hS h A G fx top m).bind _ = none
      rw [ih z]; rfl
/-- the value -/
def val (h : prm p) (F : Pxy p) (x y : Fp p) : Fp p := letI := fR h; sm (fR h) 7 (fun j => sm (fR h) 41 (fun i => F j i * x ^ i) * y ^ j)
/-- Horner: the numbers from k on -/
def hr (h : prm p) (c : Nat → Fp p) (x : Fp p) (n k : Nat) : Fp p := letI := fR h; sm (fR h) (n - k) (fun i => c (k + i) * x ^ i)
theorem hr_s (h : prm p) (c : Nat → Fp p) (x : Fp p) {n k : Nat} (hk : k < n) : letI := fR h; hr h c x n k = hr h c x n (k + 1) * x + c k := by
  letI := fR h
  unfold hr
  rw [show n - k = (n - (k + 1)) + 1 by omega, sm_front]
  have : sm (fR h) (n - (k + 1)) (fun i => c (k + (i + 1)) * x ^ (i + 1)) = sm (fR h) (n - (k + 1)) (fun i => (c (k + 1 + i) * x ^ i) * x) := sm_congr (fR h) (fun i _ => by
    rw [pw_s (fR h), show k + (i + 1) = k + 1 + i by omega]; grind)
  rw [this, sm_mulr, pw_0 (fR h), Nat.add_zero]
  grind
theorem hr_z (h : prm p) {c : Nat → Fp p} (x : Fp p) {n k : Nat} (hz : letI := fR h; ∀ i, k ≤ i → c i = 0) : letI := fR h; hr h c x n k = 0 := by
  letI := fR h
  refine sm_zero (fR h) (fun i _ => ?_)
  rw [hz _ (by omega)]; grind
theorem hr_0 (h : prm p) (c : Nat → Fp p) (x : Fp p) (n : Nat) : letI := fR h; hr h c x n 0 = sm (fR h) n (fun i => c i * x ^ i) := by
  letI := fR h
  exact sm_congr (fR h) (fun i _ => by rw [Nat.zero_add])
end
