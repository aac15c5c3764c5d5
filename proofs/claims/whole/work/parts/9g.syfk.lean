/-! Sylvester's world stands where its own cells do -/
theorem sys_fk2 {B : Nat} {h h1 : GH} {s : Nat} {g : Int → Option Nat} {sz : Int} {P : Nat → GE → Prop} (w : SYs B h s g sz) (f : FK P h h1) (k : ∀ (x : Nat) (e : GE), B + 58 ≤ x → npc e → SF s g x ∨ x = s + 6 ∨ x = s + 7 → P x e) : SYs B h1 s g sz := by
  obtain ⟨w1, w2, w3, w4, w5, w6, w7⟩ := w
  have low : ∀ (x : Nat) (e : GE), (∃ m : Nat, m < 8 ∧ x = s + m) → npc e → h.2 x = some e → h1.2 x = some e := fun x e ⟨m, m1, m2⟩ hn he => by
    subst m2
    refine f.2 _ e he (k _ e (by omega) hn ?_)
    rcases Nat.lt_or_ge m 6 with z | z
    · exact Or.inl (Or.inl (by omega))
    · exact Or.inr (by omega)
  have lr : ∀ (t : Int) (r x : Nat) (e : GE), g t = some r → x = r ∨ x = r + 1 → h.2 x = some e → h1.2 x = some e := fun t r x e hr hx he => f.2 x e he (k x e (by have := (w4.2.1 t r hr).1; omega) ((w4.2.1 t r hr).2.npc (by omega) hx he) (Or.inl (Or.inr ⟨t, r, hr, hx⟩)))
  have two : ∀ (n m : Nat), RA n h (s + m) → n ≠ 287 → m < 7 → ∀ (x : Nat) (e : GE), x = s + m ∨ x = s + m + 1 → h.2 x = some e → h1.2 x = some e := fun n m wr hn hm x e hx he => low x e (by
    rcases hx with z | z
    · exact ⟨m, by omega, z⟩
    · exact ⟨m + 1, by omega, z⟩) (wr.npc hn hx he) he
  exact ⟨w1, Nat.le_trans w2 f.1, low _ _ ⟨0, by omega, rfl⟩ (npc_o (by omega)) w3, w4.of1 (fun e he => low _ e ⟨1, by omega, rfl⟩ (by rw [w4.1] at he; rw [← Option.some.inj he]; exact npc_r) he) lr, w5.of1 (two 160 2 w5 (by omega) (by omega)), w6.of1 (two 160 4 w6 (by omega) (by omega)), w7.of1 (two 1 6 w7.ra (by omega) (by omega))⟩
theorem sy_fk2 {B : Nat} {h h1 : GH} {sy : Value} {U : Nat → Prop} {P : Nat → GE → Prop} (w : SY B h sy U) (f : FK P h h1) (k : ∀ (x : Nat) (e : GE), B + 58 ≤ x → npc e → U x → P x e) : SY B h1 sy U := by
  rcases w with z | ⟨s, g, sz, z1, z2, z3⟩
  · exact Or.inl z
  · exact Or.inr ⟨s, g, sz, z1, sys_fk2 z2 f (fun x e hx hn hs => k x e hx hn (z3 x hs)), z3⟩
