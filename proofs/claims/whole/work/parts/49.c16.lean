/-! the class: what ties it to the reference, after a change -/
theorem CTg.fr {I I2 : Nat → Nat → Int32} {b : Nat} {CL : List xCl} (h : CTg I b CL) (e : ∀ j, j ≤ 6 → I2 (b + j) = I (b + j)) : CTg I2 b CL := by
  refine ⟨?_, fun i hi => ?_⟩
  · have := e 0 (by omega); rw [Nat.add_zero] at this; rw [this]; exact h.1
  · obtain ⟨h1, h2, h3, h4⟩ := h.2 i hi
    unfold CClg
    rw [e 1 (by omega), e 2 (by omega), e 3 (by omega), e 4 (by omega), e 5 (by omega), e 6 (by omega)]
    exact ⟨h1, h2, h3, h4⟩
theorem RTg.fr {R R2 : Nat → Nat → Int32} {tt : Nat} {CL : List xCl} (h : RTg R (R 117) tt CL 600) (e : ∀ c, 112 ≤ c → c ≤ 117 → R2 c = R c) : RTg R2 (R2 117) tt CL 600 := by
  intro i hi
  have h2 := h i hi
  unfold RClg at h2 ⊢
  rw [e 112 (by omega) (by omega), e 113 (by omega) (by omega), e 114 (by omega) (by omega), e 115 (by omega) (by omega), e 116 (by omega) (by omega), e 117 (by omega) (by omega)]
  exact h2
theorem HO.fr {I I2 : Nat → Nat → Int32} {K : Nat → Nat → Option Nat} {h : List xSh} {KA : Nat → Option Nat} {R2 R3 R4 R6 : Nat → Int32} {a : Nat} (H : HO I K h KA R2 R3 R4 R6 a) (e : ∀ q, 153 ≤ q → I2 q = I q) : HO I2 K h KA R2 R3 R4 R6 a := by
  obtain ⟨q, k, ⟨h1, h2⟩, h3, h4, h5, h6, h7, h8, h9⟩ := H
  refine ⟨q, k, ⟨h1, h2⟩, h3, ?_⟩
  rw [e q h2]
  exact ⟨h4, h5, h6, h7, h8, h9⟩
theorem CR.fr {I I2 R R2 : Nat → Nat → Int32} {K : Nat → Nat → Option Nat} {h : List xSh} {na tw : Nat} (C : CR I K h R na tw) (E : CE I2 R2) (F : ∀ c, c = 0 ∨ 13 < c → c < 39 ∨ 43 < c → I2 c = I c) (G : ∀ c, (102 ≤ c ∧ c ≤ 104) ∨ c = 106 ∨ (111 ≤ c ∧ c ≤ 117) → R2 c = R c) (ht : R2 98 15 = R 98 15) : CR I2 K h R2 na tw := by
  refine ⟨E.heads, E.hats, E.day, E.seen, E.booked, E.town, E.a2, E.a3, E.a4, E.a6, E.a7, E.a8, E.a9, E.a10, E.a11, E.a12, E.a13, ?_, C.tw6, ?_, ?_, fun tt htt => ?_, fun a ha => ?_⟩
  · rw [F 0 (Or.inl rfl) (Or.inl (by decide))]; exact C.tc
  · rw [ht]; exact C.tg
  · rw [F 29 (Or.inr (by decide)) (Or.inl (by decide))]; exact C.no
  · obtain ⟨CL, h1, h2, h3, h4⟩ := C.towns tt htt
    refine ⟨CL, h1.fr (fun j hj => F _ (Or.inr (by omega)) (Or.inr (by omega))), ?_, h3, h4.fr (fun c h1 h2 => G c (by omega))⟩
    rw [G 111 (by omega)]; exact h2
  · rw [G 102 (by omega), G 103 (by omega), G 104 (by omega), G 106 (by omega)]
    exact (C.hat a ha).fr (fun q hq => F q (Or.inr (by omega)) (Or.inr (by omega)))
