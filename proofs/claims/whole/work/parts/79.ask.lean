/-! askers: what the class answers on the memory of both, and the reference behind it -/
/-- the reference's cells -/
def hi9 (I : Nat → Nat → Int32) : Nat → Nat → Int32 := fun c k => if 98 ≤ c then I c k else 0
/-- equal but for the class's scratch -/
def CX (I I1 : Nat → Nat → Int32) : Prop := ∀ c, c < 39 ∨ 43 < c → I1 c = I c
theorem CX.refl (I : Nat → Nat → Int32) : CX I I := fun _ _ => rfl
theorem CX.up {I I1 : Nat → Nat → Int32} (h : CX I I1) {a : Nat} (ha : 38 < a ∧ a < 44) (g : Nat → Int32) : CX I (upc I1 a g) := fun c hc => (upc_ne _ _ (by omega)).trans (h c hc)
theorem CX.hi {I I1 : Nat → Nat → Int32} (h : CX I I1) : hi9 I1 = hi9 I := by
  funext c k
  unfold hi9
  by_cases e : 98 ≤ c
  · rw [if_pos e, if_pos e, h c (Or.inr (by omega))]
  · rw [if_neg e, if_neg e]
theorem MI_hi {I : Nat → Nat → Int32} {nh na dd cb ce : Nat} : MI (hi9 I) nh na dd cb ce = MI I nh na dd cb ce := rfl
theorem hi_mi {I I1 : Nat → Nat → Int32} (h : hi9 I1 = hi9 I) {nh na dd cb ce : Nat} (M : MI I nh na dd cb ce) : MI I1 nh na dd cb ce := by
  rw [← MI_hi] at M ⊢
  rw [h]
  exact M
theorem DB_hi {I : Nat → Nat → Int32} {nh na cb ce : Nat} : DB (hi9 I) cb ce nh na = DB I cb ce nh na := rfl
theorem hi_db {I I1 : Nat → Nat → Int32} (h : hi9 I1 = hi9 I) {nh na cb ce : Nat} (D : DB I cb ce nh na) : DB I1 cb ce nh na := by
  rw [← DB_hi] at D ⊢
  rw [h]
  exact D
theorem hi_c {I I1 : Nat → Nat → Int32} (X : hi9 I1 = hi9 I) {c : Nat} (hc : 98 ≤ c) : I1 c = I c := by
  have h := congrFun X c
  unfold hi9 at h
  funext k
  have h2 := congrFun h k
  rw [if_pos hc, if_pos hc] at h2
  exact h2
theorem c_hi {I I1 : Nat → Nat → Int32} (H : ∀ c, 98 ≤ c → I1 c = I c) : hi9 I1 = hi9 I := by
  funext c k
  unfold hi9
  by_cases e : 98 ≤ c
  · rw [if_pos e, if_pos e, H c e]
  · rw [if_neg e, if_neg e]
theorem sv_c {A B : Nat → Nat → Int32} (H : ∀ c, 98 ≤ c → A c = B c) : ∀ c, 98 ≤ c → svI A c = svI B c := by
  intro c hc
  have e98 := H 98 (by decide)
  have e107 := H 107 (by decide)
  have e101 := H 101 (by decide)
  have e122 := H 122 (by decide)
  have e123 := H 123 (by decide)
  unfold svI s1
  simp only [upc, e98, e107, e101, e122, e123, H c hc]
theorem go_c {A B : Nat → Nat → Int32} {nh : Nat} (H : ∀ c, 98 ≤ c → A c = B c) : ∀ c, 98 ≤ c → goI A nh c = goI B nh c := by
  intro c hc
  have e98 := H 98 (by decide)
  have e107 := H 107 (by decide)
  have e101 := H 101 (by decide)
  unfold goI goU s1
  simp only [upc, e98, e107, e101, H c hc]
theorem dS_c {A B : Nat → Nat → Int32} {nh : Nat} (H : ∀ c, 98 ≤ c → A c = B c) : ∀ n c, 98 ≤ c → dS A nh n c = dS B nh n c := by
  intro n
  induction n with
  | zero => exact sv_c H
  | succ n ih => exact go_c ih
theorem hi_tod {I I1 : Nat → Nat → Int32} (X : hi9 I1 = hi9 I) {cb ce nh : Nat} {t : Int32} : todM I1 cb ce nh t = todM I cb ce nh t := by
  have h9 := congrArg (fun r => todM r cb ce nh t) X
  exact h9
theorem hi_work {I I1 : Nat → Nat → Int32} (X : hi9 I1 = hi9 I) {cb ce : Nat} {t : Int32} : workF I1 cb ce t = workF I cb ce t := by
  have h9 := congrArg (fun r => workF r cb ce t) X
  exact h9
theorem hi_on {I I1 : Nat → Nat → Int32} (X : hi9 I1 = hi9 I) {cb ce nh : Nat} {t w : Int32} : onM I1 nh cb ce t w = onM I nh cb ce t w := by
  unfold onM
  have e : fOn I1 nh cb ce t = fOn I nh cb ce t := by
    funext k s
    unfold fOn
    rw [hi_tod (c_hi (dS_c (fun c hc => hi_c X hc) k))]
  rw [e]
theorem hi_las {I I1 : Nat → Nat → Int32} (X : hi9 I1 = hi9 I) {cb ce nh : Nat} {t : Int32} : lasM I1 nh cb ce t = lasM I nh cb ce t := by
  unfold lasM
  have e : (fun k => decide (todM (dS I1 nh k) cb ce nh t < workF I1 cb ce t)) = fun k => decide (todM (dS I nh k) cb ce nh t < workF I cb ce t) := by
    funext k
    rw [hi_tod (c_hi (dS_c (fun c hc => hi_c X hc) k)), hi_work X]
  rw [e]
set_option maxRecDepth 100000 in
set_option maxHeartbeats 4000000 in
theorem QC_of {d : Nat} {I : Nat → Nat → Int32} {J : Nat → Nat → Int64} {K : Nat → Nat → Option Nat} {h : List xSh} (S : St K h) {nh na dd cb ce tw : Nat} (C : CR I K h I na tw) (M : MI I nh na dd cb ce) (Q : AR I nh na dd)  (v : Int32) (w : Int32) : EvP (d + 20) 58 0 [(0, .ref 0), (1, .int v), (2, .int w)] [] (I, J, K, h) (QI (fun x t => x = ofM I cb ce nh na v w ∧ ∃ I1, t = (I1, J, K, h) ∧ CX I I1)) := by
  refine p_self 39 ?_
  refine EvP.mono (C_of (d := d + 14) S C M Q (I 39) v w) (fun r t hq => ?_)
  obtain ⟨x, rfl, hx, g, rfl⟩ := hq
  exact ⟨_, rfl, hx, _, rfl, (CX.refl I).up (by decide) g⟩
set_option maxRecDepth 100000 in
set_option maxHeartbeats 4000000 in
theorem QM_of {d : Nat} {I : Nat → Nat → Int32} {J : Nat → Nat → Int64} {K : Nat → Nat → Option Nat} {h : List xSh} (S : St K h) {I1 : Nat → Nat → Int32} (X : hi9 I1 = hi9 I) {nh na dd cb ce : Nat} (M : MI I nh na dd cb ce)  (v : Int32) (w : Int32) : EvP (d + 20) 168 0 [(0, .ref 98), (1, .int v), (2, .int w)] [] (I1, J, K, h) (QI (fun x t => x = ofM I cb ce nh na v w ∧ ∃ I2, t = (I2, J, K, h) ∧ AG I1 I2)) := by
  refine p_self 120 ?_
  refine EvP.mono (M_of (d := d + 16) S (hi_mi X M) (I1 120) v w) (fun r t hq => ?_)
  obtain ⟨x, rfl, hx, g, rfl⟩ := hq
  exact ⟨_, rfl, hx.trans (show ofM I1 cb ce nh na v w = ofM I cb ce nh na v w from by have h9 := congrArg (fun r => ofM r cb ce nh na v w) X; exact h9), _, rfl, AG.up g⟩
set_option maxRecDepth 100000 in
set_option maxHeartbeats 4000000 in
theorem QC_at {d : Nat} {I : Nat → Nat → Int32} {J : Nat → Nat → Int64} {K : Nat → Nat → Option Nat} {h : List xSh} (S : St K h) {nh na dd cb ce tw : Nat} (C : CR I K h I na tw) (M : MI I nh na dd cb ce) (Q : AR I nh na dd)  (v : Int32) (w : Int32) : EvP (d + 20) 59 0 [(0, .ref 0), (1, .int v), (2, .int w)] [] (I, J, K, h) (QI (fun x t => x = atM I nh v w ∧ ∃ I1, t = (I1, J, K, h) ∧ CX I I1)) := by
  refine EvP.mono (C_at (d := d + 19) S C M Q v w) (fun r t hq => ?_)
  obtain ⟨x, rfl, hx, rfl⟩ := hq
  exact ⟨_, rfl, hx, _, rfl, CX.refl I⟩
set_option maxRecDepth 100000 in
set_option maxHeartbeats 4000000 in
theorem QM_at {d : Nat} {I : Nat → Nat → Int32} {J : Nat → Nat → Int64} {K : Nat → Nat → Option Nat} {h : List xSh} (S : St K h) {I1 : Nat → Nat → Int32} (X : hi9 I1 = hi9 I) {nh na dd cb ce : Nat} (M : MI I nh na dd cb ce)  (v : Int32) (w : Int32) : EvP (d + 20) 169 0 [(0, .ref 98), (1, .int v), (2, .int w)] [] (I1, J, K, h) (QI (fun x t => x = atM I nh v w ∧ ∃ I2, t = (I2, J, K, h) ∧ AG I1 I2)) := by
  refine EvP.mono (M_at (d := d + 18) S (hi_mi X M) v w) (fun r t hq => ?_)
  obtain ⟨x, rfl, hx, rfl⟩ := hq
  exact ⟨_, rfl, hx.trans (show atM I1 nh v w = atM I nh v w from by have h9 := congrArg (fun r => atM r nh v w) X; exact h9), _, rfl, AG.refl I1⟩
set_option maxRecDepth 100000 in
set_option maxHeartbeats 4000000 in
theorem QC_told {d : Nat} {I : Nat → Nat → Int32} {J : Nat → Nat → Int64} {K : Nat → Nat → Option Nat} {h : List xSh} (S : St K h) {nh na dd cb ce tw : Nat} (C : CR I K h I na tw) (M : MI I nh na dd cb ce) (Q : AR I nh na dd)  (w : Int32) : EvP (d + 20) 66 0 [(0, .ref 0), (1, .int w)] [] (I, J, K, h) (QI (fun x t => x = toldM I cb ce w ∧ ∃ I1, t = (I1, J, K, h) ∧ CX I I1)) := by
  refine EvP.mono (C_told (d := d + 18) S C M Q w) (fun r t hq => ?_)
  obtain ⟨x, rfl, hx, rfl⟩ := hq
  exact ⟨_, rfl, hx, _, rfl, CX.refl I⟩
set_option maxRecDepth 100000 in
set_option maxHeartbeats 4000000 in
theorem QM_told {d : Nat} {I : Nat → Nat → Int32} {J : Nat → Nat → Int64} {K : Nat → Nat → Option Nat} {h : List xSh} (S : St K h) {I1 : Nat → Nat → Int32} (X : hi9 I1 = hi9 I) {nh na dd cb ce : Nat} (M : MI I nh na dd cb ce)  (w : Int32) : EvP (d + 20) 170 0 [(0, .ref 98), (1, .int w)] [] (I1, J, K, h) (QI (fun x t => x = toldM I cb ce w ∧ ∃ I2, t = (I2, J, K, h) ∧ AG I1 I2)) := by
  refine EvP.mono (M_told (d := d + 18) S (hi_mi X M) w) (fun r t hq => ?_)
  obtain ⟨x, rfl, hx, rfl⟩ := hq
  exact ⟨_, rfl, hx.trans (show toldM I1 cb ce w = toldM I cb ce w from by have h9 := congrArg (fun r => toldM r cb ce w) X; exact h9), _, rfl, AG.refl I1⟩
set_option maxRecDepth 100000 in
set_option maxHeartbeats 4000000 in
theorem QC_today {d : Nat} {I : Nat → Nat → Int32} {J : Nat → Nat → Int64} {K : Nat → Nat → Option Nat} {h : List xSh} (S : St K h) {nh na dd cb ce tw : Nat} (C : CR I K h I na tw) (M : MI I nh na dd cb ce) (Q : AR I nh na dd)  (v : Int32) : EvP (d + 20) 70 0 [(0, .ref 0), (1, .int v)] [] (I, J, K, h) (QI (fun x t => x = todayM I cb ce nh v ∧ ∃ I1, t = (I1, J, K, h) ∧ CX I I1)) := by
  refine p_self 39 ?_
  refine EvP.mono (C_today (d := d + 13) S C M Q (I 39) v) (fun r t hq => ?_)
  obtain ⟨x, rfl, hx, g, rfl⟩ := hq
  exact ⟨_, rfl, hx, _, rfl, (CX.refl I).up (by decide) g⟩
set_option maxRecDepth 100000 in
set_option maxHeartbeats 4000000 in
theorem QM_today {d : Nat} {I : Nat → Nat → Int32} {J : Nat → Nat → Int64} {K : Nat → Nat → Option Nat} {h : List xSh} (S : St K h) {I1 : Nat → Nat → Int32} (X : hi9 I1 = hi9 I) {nh na dd cb ce : Nat} (M : MI I nh na dd cb ce)  (v : Int32) : EvP (d + 20) 178 0 [(0, .ref 98), (1, .int v)] [] (I1, J, K, h) (QI (fun x t => x = todayM I cb ce nh v ∧ ∃ I2, t = (I2, J, K, h) ∧ AG I1 I2)) := by
  refine p_self 120 ?_
  refine EvP.mono (M_todayA (d := d + 15) S (hi_mi X M) (I1 120) v) (fun r t hq => ?_)
  obtain ⟨x, rfl, hx, g, rfl⟩ := hq
  exact ⟨_, rfl, hx.trans (show todayM I1 cb ce nh v = todayM I cb ce nh v from by have h9 := congrArg (fun r => todayM r cb ce nh v) X; exact h9), _, rfl, AG.up g⟩
set_option maxRecDepth 100000 in
set_option maxHeartbeats 4000000 in
theorem QC_enough {d : Nat} {I : Nat → Nat → Int32} {J : Nat → Nat → Int64} {K : Nat → Nat → Option Nat} {h : List xSh} (S : St K h) {nh na dd cb ce tw : Nat} (C : CR I K h I na tw) (M : MI I nh na dd cb ce) (Q : AR I nh na dd)  : EvP (d + 20) 71 0 [(0, .ref 0)] [] (I, J, K, h) (QI (fun x t => x = nI (enoM I cb ce nh) ∧ ∃ I1, t = (I1, J, K, h) ∧ CX I I1)) := by
  refine p_self 39 ?_
  refine EvP.mono (C_enough (d := d + 12) S C M Q (I 39) ) (fun r t hq => ?_)
  obtain ⟨x, rfl, hx, g, rfl⟩ := hq
  exact ⟨_, rfl, hx, _, rfl, (CX.refl I).up (by decide) g⟩
set_option maxRecDepth 100000 in
set_option maxHeartbeats 4000000 in
theorem QM_enough {d : Nat} {I : Nat → Nat → Int32} {J : Nat → Nat → Int64} {K : Nat → Nat → Option Nat} {h : List xSh} (S : St K h) {I1 : Nat → Nat → Int32} (X : hi9 I1 = hi9 I) {nh na dd cb ce : Nat} (M : MI I nh na dd cb ce)  : EvP (d + 20) 179 0 [(0, .ref 98)] [] (I1, J, K, h) (QI (fun x t => x = nI (enoM I cb ce nh) ∧ ∃ I2, t = (I2, J, K, h) ∧ AG I1 I2)) := by
  refine p_self 120 ?_
  refine EvP.mono (M_enough (d := d + 15) S (hi_mi X M) (I1 120) ) (fun r t hq => ?_)
  obtain ⟨x, rfl, hx, g, rfl⟩ := hq
  exact ⟨_, rfl, hx.trans (show nI (enoM I1 cb ce nh) = nI (enoM I cb ce nh) from by have h9 := congrArg (fun r => nI (enoM r cb ce nh)) X; exact h9), _, rfl, AG.up g⟩
set_option maxRecDepth 100000 in
set_option maxHeartbeats 4000000 in
theorem QC_best {d : Nat} {I : Nat → Nat → Int32} {J : Nat → Nat → Int64} {K : Nat → Nat → Option Nat} {h : List xSh} (S : St K h) {nh na dd cb ce tw : Nat} (C : CR I K h I na tw) (M : MI I nh na dd cb ce) (Q : AR I nh na dd)  (v : Int32) : EvP (d + 20) 72 0 [(0, .ref 0), (1, .int v)] [] (I, J, K, h) (QI (fun x t => x = bestM I cb ce nh na v ∧ ∃ I1, t = (I1, J, K, h) ∧ CX I I1)) := by
  refine p_self 39 ?_
  refine EvP.mono (C_best (d := d + 14) S C M Q (I 39) v) (fun r t hq => ?_)
  obtain ⟨x, rfl, hx, g, rfl⟩ := hq
  exact ⟨_, rfl, hx, _, rfl, (CX.refl I).up (by decide) g⟩
set_option maxRecDepth 100000 in
set_option maxHeartbeats 4000000 in
theorem QM_best {d : Nat} {I : Nat → Nat → Int32} {J : Nat → Nat → Int64} {K : Nat → Nat → Option Nat} {h : List xSh} (S : St K h) {I1 : Nat → Nat → Int32} (X : hi9 I1 = hi9 I) {nh na dd cb ce : Nat} (M : MI I nh na dd cb ce)  (v : Int32) : EvP (d + 20) 180 0 [(0, .ref 98), (1, .int v)] [] (I1, J, K, h) (QI (fun x t => x = bestM I cb ce nh na v ∧ ∃ I2, t = (I2, J, K, h) ∧ AG I1 I2)) := by
  refine p_self 120 ?_
  refine EvP.mono (M_best (d := d + 16) S (hi_mi X M) (I1 120) v) (fun r t hq => ?_)
  obtain ⟨x, rfl, hx, g, rfl⟩ := hq
  exact ⟨_, rfl, hx.trans (show bestM I1 cb ce nh na v = bestM I cb ce nh na v from by have h9 := congrArg (fun r => bestM r cb ce nh na v) X; exact h9), _, rfl, AG.up g⟩
set_option maxRecDepth 100000 in
set_option maxHeartbeats 4000000 in
theorem QC_on {d : Nat} {I : Nat → Nat → Int32} {J : Nat → Nat → Int64} {K : Nat → Nat → Option Nat} {h : List xSh} (S : St K h) {nh na dd cb ce tw : Nat} (C : CR I K h I na tw) (M : MI I nh na dd cb ce) (Q : AR I nh na dd)  (q : Int32) (w : Int32) : EvP (d + 20) 73 0 [(0, .ref 0), (1, .int q), (2, .int w)] [] (I, J, K, h) (QI (fun x t => x = onM I nh cb ce q w ∧ ∃ I1, t = (I1, J, K, h) ∧ CX I I1)) := by
  refine p_self 39 ?_
  refine EvP.mono (C_on (d := d + 13) S C M Q (I 39) q w) (fun r t hq => ?_)
  obtain ⟨x, rfl, hx, g, rfl⟩ := hq
  exact ⟨_, rfl, hx, _, rfl, (CX.refl I).up (by decide) g⟩
set_option maxRecDepth 100000 in
set_option maxHeartbeats 4000000 in
theorem QM_on {d : Nat} {I : Nat → Nat → Int32} {J : Nat → Nat → Int64} {K : Nat → Nat → Option Nat} {h : List xSh} (S : St K h) {I1 : Nat → Nat → Int32} (X : hi9 I1 = hi9 I) {nh na dd cb ce : Nat} (M : MI I nh na dd cb ce) (hmu : I 98 33 = nI 9999) (hd9 : dd ≤ 9999) (q : Int32) (w : Int32) : EvP (d + 20) 183 0 [(0, .ref 98), (1, .int q), (2, .int w)] [] (I1, J, K, h) (QI (fun x t => x = onM I nh cb ce q w ∧ ∃ I2, t = (I2, J, K, h) ∧ AG I1 I2)) := by
  refine EvP.mono (M_on (d := d + 15) S (hi_mi X M) (show I1 98 33 = nI 9999 from (congrFun (congrFun X 98) 33).trans hmu) hd9 q w) (fun r t hq => ?_)
  obtain ⟨x, rfl, hx, I2, rfl, hA⟩ := hq
  exact ⟨_, rfl, (hx.trans (hi_on X)), _, rfl, hA⟩
set_option maxRecDepth 100000 in
set_option maxHeartbeats 4000000 in
theorem QC_lasts {d : Nat} {I : Nat → Nat → Int32} {J : Nat → Nat → Int64} {K : Nat → Nat → Option Nat} {h : List xSh} (S : St K h) {nh na dd cb ce tw : Nat} (C : CR I K h I na tw) (M : MI I nh na dd cb ce) (Q : AR I nh na dd)  (q : Int32) : EvP (d + 20) 74 0 [(0, .ref 0), (1, .int q)] [] (I, J, K, h) (QI (fun x t => x = lasM I nh cb ce q ∧ ∃ I1, t = (I1, J, K, h) ∧ CX I I1)) := by
  refine p_self 39 ?_
  refine EvP.mono (C_lasts (d := d + 12) S C M Q (I 39) q) (fun r t hq => ?_)
  obtain ⟨x, rfl, hx, g, rfl⟩ := hq
  exact ⟨_, rfl, hx, _, rfl, (CX.refl I).up (by decide) g⟩
set_option maxRecDepth 100000 in
set_option maxHeartbeats 4000000 in
theorem QM_lasts {d : Nat} {I : Nat → Nat → Int32} {J : Nat → Nat → Int64} {K : Nat → Nat → Option Nat} {h : List xSh} (S : St K h) {I1 : Nat → Nat → Int32} (X : hi9 I1 = hi9 I) {nh na dd cb ce : Nat} (M : MI I nh na dd cb ce) (hmu : I 98 33 = nI 9999) (hd9 : dd ≤ 9999) (q : Int32) : EvP (d + 20) 184 0 [(0, .ref 98), (1, .int q)] [] (I1, J, K, h) (QI (fun x t => x = lasM I nh cb ce q ∧ ∃ I2, t = (I2, J, K, h) ∧ AG I1 I2)) := by
  refine EvP.mono (M_lasts (d := d + 15) S (hi_mi X M) (show I1 98 33 = nI 9999 from (congrFun (congrFun X 98) 33).trans hmu) hd9 q) (fun r t hq => ?_)
  obtain ⟨x, rfl, hx, I2, rfl, hA⟩ := hq
  exact ⟨_, rfl, (hx.trans (hi_las X)), _, rfl, hA⟩
set_option maxRecDepth 100000 in
set_option maxHeartbeats 4000000 in
theorem QC_by {d : Nat} {I : Nat → Nat → Int32} {J : Nat → Nat → Int64} {K : Nat → Nat → Option Nat} {h : List xSh} (S : St K h) {nh na dd cb ce tw : Nat} (C : CR I K h I na tw) (M : MI I nh na dd cb ce) (Q : AR I nh na dd)  (v : Int32) : EvP (d + 20) 75 0 [(0, .ref 0), (1, .int v)] [] (I, J, K, h) (QI (fun x t => x = byM I cb ce nh na v ∧ ∃ I1, t = (I1, J, K, h) ∧ CX I I1)) := by
  refine p_self 39 ?_
  refine EvP.mono (C_by (d := d + 13) S C M Q (I 39) v) (fun r t hq => ?_)
  obtain ⟨x, rfl, hx, rfl | ⟨w9, u, g, rfl⟩⟩ := hq
  · exact ⟨_, rfl, hx, _, rfl, (CX.refl I).up (by decide) (I 39)⟩
  · exact ⟨_, rfl, hx, _, rfl, (((CX.refl I).up (by decide) w9).up (by decide) u).up (by decide) g⟩
set_option maxRecDepth 100000 in
set_option maxHeartbeats 4000000 in
theorem QM_by {d : Nat} {I : Nat → Nat → Int32} {J : Nat → Nat → Int64} {K : Nat → Nat → Option Nat} {h : List xSh} (S : St K h) {I1 : Nat → Nat → Int32} (X : hi9 I1 = hi9 I) {nh na dd cb ce : Nat} (M : MI I nh na dd cb ce)  (v : Int32) : EvP (d + 20) 189 0 [(0, .ref 98), (1, .int v)] [] (I1, J, K, h) (QI (fun x t => x = byM I cb ce nh na v ∧ ∃ I2, t = (I2, J, K, h) ∧ AG I1 I2)) := by
  refine p_self 120 ?_
  refine EvP.mono (M_by (d := d + 14) S (hi_mi X M) (I1 120) v) (fun r t hq => ?_)
  obtain ⟨x, rfl, hx, I2, rfl, hA⟩ := hq
  exact ⟨_, rfl, hx.trans (show byM I1 cb ce nh na v = byM I cb ce nh na v from by have h9 := congrArg (fun r => byM r cb ce nh na v) X; exact h9), _, rfl, hA⟩
set_option maxRecDepth 100000 in
set_option maxHeartbeats 4000000 in
theorem QC_can {d : Nat} {I : Nat → Nat → Int32} {J : Nat → Nat → Int64} {K : Nat → Nat → Option Nat} {h : List xSh} (S : St K h) {nh na dd cb ce tw : Nat} (C : CR I K h I na tw) (M : MI I nh na dd cb ce) (Q : AR I nh na dd) (hD : DB I cb ce nh na) : EvP (d + 20) 76 0 [(0, .ref 0)] [] (I, J, K, h) (QI (fun x t => x = nI (caM I cb ce nh na) ∧ ∃ I1, t = (I1, J, K, h) ∧ CX I I1)) := by
  refine p_self 39 ?_
  refine EvP.mono (C_can (d := d + 13) S C M Q (I 39) ) (fun r t hq => ?_)
  obtain ⟨x, rfl, hx, w9, u, g, rfl⟩ := hq
  exact ⟨_, rfl, (hx.trans (congrArg nI (can_eq M.nh6 M.na6 hD))), _, rfl, (((CX.refl I).up (by decide) w9).up (by decide) u).up (by decide) g⟩
set_option maxRecDepth 100000 in
set_option maxHeartbeats 4000000 in
theorem QM_can {d : Nat} {I : Nat → Nat → Int32} {J : Nat → Nat → Int64} {K : Nat → Nat → Option Nat} {h : List xSh} (S : St K h) {I1 : Nat → Nat → Int32} (X : hi9 I1 = hi9 I) {nh na dd cb ce : Nat} (M : MI I nh na dd cb ce)  : EvP (d + 20) 191 0 [(0, .ref 98)] [] (I1, J, K, h) (QI (fun x t => x = nI (caM I cb ce nh na) ∧ ∃ I2, t = (I2, J, K, h) ∧ AG I1 I2)) := by
  refine p_self 120 ?_
  refine EvP.mono (M_can (d := d + 15) S (hi_mi X M) (I1 120) ) (fun r t hq => ?_)
  obtain ⟨x, rfl, hx, I2, rfl, hA⟩ := hq
  exact ⟨_, rfl, hx.trans (show nI (caM I1 cb ce nh na) = nI (caM I cb ce nh na) from by have h9 := congrArg (fun r => nI (caM r cb ce nh na)) X; exact h9), _, rfl, hA⟩
set_option maxRecDepth 100000 in
set_option maxHeartbeats 4000000 in
theorem QC_back {d : Nat} {I : Nat → Nat → Int32} {J : Nat → Nat → Int64} {K : Nat → Nat → Option Nat} {h : List xSh} (S : St K h) {nh na dd cb ce tw : Nat} (C : CR I K h I na tw) (M : MI I nh na dd cb ce) (Q : AR I nh na dd)  : EvP (d + 20) 77 0 [(0, .ref 0)] [] (I, J, K, h) (QI (fun x t => x = backM I nh ∧ ∃ I1, t = (I1, J, K, h) ∧ CX I I1)) := by
  refine EvP.mono (C_back (d := d + 19) S C M Q ) (fun r t hq => ?_)
  obtain ⟨x, rfl, hx, g, rfl⟩ := hq
  exact ⟨_, rfl, (hx.trans (by unfold backM; by_cases e : claM I nh = true; rw [if_pos e, if_pos e]; rw [if_neg e, if_neg e]; exact (back_eq M Q (by cases z : claM I nh; rfl; exact absurd z e)).2)), _, rfl, (CX.refl I).up (by decide) g⟩
set_option maxRecDepth 100000 in
set_option maxHeartbeats 4000000 in
theorem QM_back {d : Nat} {I : Nat → Nat → Int32} {J : Nat → Nat → Int64} {K : Nat → Nat → Option Nat} {h : List xSh} (S : St K h) {I1 : Nat → Nat → Int32} (X : hi9 I1 = hi9 I) {nh na dd cb ce : Nat} (M : MI I nh na dd cb ce) (Q : AR I nh na dd) : EvP (d + 20) 195 0 [(0, .ref 98)] [] (I1, J, K, h) (QI (fun x t => x = backM I nh ∧ ∃ I2, t = (I2, J, K, h) ∧ AG I1 I2)) := by
  refine EvP.mono (M_back (d := d + 18) S (hi_mi X M) (fun e k hk => (show ∃ b, rngM I1 nh k = some b from by have e2 : claM I nh = false := (show claM I nh = claM I1 nh from by have h9 := congrArg (fun r => claM r nh) X.symm; exact h9).trans e; obtain ⟨b, hb⟩ := (back_eq M Q e2).1 k hk; exact ⟨b, (show rngM I1 nh k = rngM I nh k from by have h9 := congrArg (fun r => rngM r nh k) X; exact h9).trans hb⟩))) (fun r t hq => ?_)
  obtain ⟨x, rfl, hx, rfl⟩ := hq
  exact ⟨_, rfl, hx.trans (show backM I1 nh = backM I nh from by have h9 := congrArg (fun r => backM r nh) X; exact h9), _, rfl, AG.refl I1⟩
set_option maxRecDepth 100000 in
set_option maxHeartbeats 4000000 in
theorem QC_gusted {d : Nat} {I : Nat → Nat → Int32} {J : Nat → Nat → Int64} {K : Nat → Nat → Option Nat} {h : List xSh} (S : St K h) {nh na dd cb ce tw : Nat} (C : CR I K h I na tw) (M : MI I nh na dd cb ce) (Q : AR I nh na dd)  (v : Int32) : EvP (d + 20) 78 0 [(0, .ref 0), (1, .int v)] [] (I, J, K, h) (QI (fun x t => x = gustedM I nh cb ce v ∧ ∃ I1, t = (I1, J, K, h) ∧ CX I I1)) := by
  refine p_self 39 ?_
  refine EvP.mono (C_gusted (d := d + 13) S C M Q (I 39) v) (fun r t hq => ?_)
  obtain ⟨x, rfl, hx, g, rfl⟩ := hq
  exact ⟨_, rfl, hx, _, rfl, (CX.refl I).up (by decide) g⟩
set_option maxRecDepth 100000 in
set_option maxHeartbeats 4000000 in
theorem QM_gusted {d : Nat} {I : Nat → Nat → Int32} {J : Nat → Nat → Int64} {K : Nat → Nat → Option Nat} {h : List xSh} (S : St K h) {I1 : Nat → Nat → Int32} (X : hi9 I1 = hi9 I) {nh na dd cb ce : Nat} (M : MI I nh na dd cb ce) (hmu : I 98 33 = nI 9999) (v : Int32) : EvP (d + 20) 197 0 [(0, .ref 98), (1, .int v)] [] (I1, J, K, h) (QI (fun x t => x = gustedM I nh cb ce v ∧ ∃ I2, t = (I2, J, K, h) ∧ AG I1 I2)) := by
  refine EvP.mono (M_gusted (d := d + 14) S (hi_mi X M) (show I1 98 33 = nI 9999 from (congrFun (congrFun X 98) 33).trans hmu) v) (fun r t hq => ?_)
  obtain ⟨x, rfl, hx, I2, rfl, hA⟩ := hq
  exact ⟨_, rfl, hx.trans (show gustedM I1 nh cb ce v = gustedM I nh cb ce v from by have h9 := congrArg (fun r => gustedM r nh cb ce v) X; exact h9), _, rfl, hA⟩
set_option maxRecDepth 100000 in
set_option maxHeartbeats 4000000 in
theorem QC_lucky {d : Nat} {I : Nat → Nat → Int32} {J : Nat → Nat → Int64} {K : Nat → Nat → Option Nat} {h : List xSh} (S : St K h) {nh na dd cb ce tw : Nat} (C : CR I K h I na tw) (M : MI I nh na dd cb ce) (Q : AR I nh na dd)  : EvP (d + 20) 79 0 [(0, .ref 0)] [] (I, J, K, h) (QI (fun x t => x = luckyM I nh cb ce ∧ ∃ I1, t = (I1, J, K, h) ∧ CX I I1)) := by
  refine p_self 39 ?_
  refine EvP.mono (C_lucky (d := d + 13) S C M Q (I 39) ) (fun r t hq => ?_)
  obtain ⟨x, rfl, hx, g, rfl⟩ := hq
  exact ⟨_, rfl, hx, _, rfl, (CX.refl I).up (by decide) g⟩
set_option maxRecDepth 100000 in
set_option maxHeartbeats 4000000 in
theorem QM_lucky {d : Nat} {I : Nat → Nat → Int32} {J : Nat → Nat → Int64} {K : Nat → Nat → Option Nat} {h : List xSh} (S : St K h) {I1 : Nat → Nat → Int32} (X : hi9 I1 = hi9 I) {nh na dd cb ce : Nat} (M : MI I nh na dd cb ce) (hmu : I 98 33 = nI 9999) : EvP (d + 20) 198 0 [(0, .ref 98)] [] (I1, J, K, h) (QI (fun x t => x = luckyM I nh cb ce ∧ ∃ I2, t = (I2, J, K, h) ∧ AG I1 I2)) := by
  refine EvP.mono (M_lucky (d := d + 14) S (hi_mi X M) (show I1 98 33 = nI 9999 from (congrFun (congrFun X 98) 33).trans hmu)) (fun r t hq => ?_)
  obtain ⟨x, rfl, hx, I2, rfl, hA⟩ := hq
  exact ⟨_, rfl, hx.trans (show luckyM I1 nh cb ce = luckyM I nh cb ce from by have h9 := congrArg (fun r => luckyM r nh cb ce) X; exact h9), _, rfl, hA⟩
set_option maxRecDepth 100000 in
set_option maxHeartbeats 4000000 in
theorem QC_swap {d : Nat} {I : Nat → Nat → Int32} {J : Nat → Nat → Int64} {K : Nat → Nat → Option Nat} {h : List xSh} (S : St K h) {nh na dd cb ce tw : Nat} (C : CR I K h I na tw) (M : MI I nh na dd cb ce) (Q : AR I nh na dd) (hD : DB I cb ce nh na) : EvP (d + 20) 80 0 [(0, .ref 0)] [] (I, J, K, h) (QI (fun x t => x = swapM I nh cb ce ∧ ∃ I1, t = (I1, J, K, h) ∧ CX I I1)) := by
  refine p_self 39 ?_
  refine EvP.mono (C_swap (d := d + 13) S C M Q (I 39) ) (fun r t hq => ?_)
  obtain ⟨x, rfl, hx, u, g, rfl⟩ := hq
  exact ⟨_, rfl, (hx.trans (swap_eq M hD)), _, rfl, ((CX.refl I).up (by decide) u).up (by decide) g⟩
set_option maxRecDepth 100000 in
set_option maxHeartbeats 4000000 in
theorem QM_swap {d : Nat} {I : Nat → Nat → Int32} {J : Nat → Nat → Int64} {K : Nat → Nat → Option Nat} {h : List xSh} (S : St K h) {I1 : Nat → Nat → Int32} (X : hi9 I1 = hi9 I) {nh na dd cb ce : Nat} (M : MI I nh na dd cb ce)  : EvP (d + 20) 199 0 [(0, .ref 98)] [] (I1, J, K, h) (QI (fun x t => x = swapM I nh cb ce ∧ ∃ I2, t = (I2, J, K, h) ∧ AG I1 I2)) := by
  refine p_self 120 ?_
  refine EvP.mono (M_swap (d := d + 15) S (hi_mi X M) (I1 120) ) (fun r t hq => ?_)
  obtain ⟨x, rfl, hx, g, rfl⟩ := hq
  exact ⟨_, rfl, hx.trans (show swapM I1 nh cb ce = swapM I nh cb ce from by have h9 := congrArg (fun r => swapM r nh cb ce) X; exact h9), _, rfl, AG.up g⟩
set_option maxRecDepth 100000 in
set_option maxHeartbeats 4000000 in
theorem QC_quarrel {d : Nat} {I : Nat → Nat → Int32} {J : Nat → Nat → Int64} {K : Nat → Nat → Option Nat} {h : List xSh} (S : St K h) {nh na dd cb ce tw : Nat} (C : CR I K h I na tw) (M : MI I nh na dd cb ce) (Q : AR I nh na dd)  (v : Int32) (w : Int32) (z : Int32) : EvP (d + 20) 81 0 [(0, .ref 0), (1, .int v), (2, .int w), (3, .int z)] [] (I, J, K, h) (QI (fun x t => x = quarM I cb ce nh na v w z ∧ ∃ I1, t = (I1, J, K, h) ∧ CX I I1)) := by
  refine p_self 39 ?_
  refine EvP.mono (C_quarrel (d := d + 14) S C M Q (I 39) v w z) (fun r t hq => ?_)
  obtain ⟨x, rfl, hx, g, rfl⟩ := hq
  exact ⟨_, rfl, hx, _, rfl, (CX.refl I).up (by decide) g⟩
set_option maxRecDepth 100000 in
set_option maxHeartbeats 4000000 in
theorem QM_quarrel {d : Nat} {I : Nat → Nat → Int32} {J : Nat → Nat → Int64} {K : Nat → Nat → Option Nat} {h : List xSh} (S : St K h) {I1 : Nat → Nat → Int32} (X : hi9 I1 = hi9 I) {nh na dd cb ce : Nat} (M : MI I nh na dd cb ce)  (v : Int32) (w : Int32) (z : Int32) : EvP (d + 20) 200 0 [(0, .ref 98), (1, .int v), (2, .int w), (3, .int z)] [] (I1, J, K, h) (QI (fun x t => x = quarM I cb ce nh na v w z ∧ ∃ I2, t = (I2, J, K, h) ∧ AG I1 I2)) := by
  refine p_self 120 ?_
  refine EvP.mono (M_quarrel (d := d + 16) S (hi_mi X M) (I1 120) v w z) (fun r t hq => ?_)
  obtain ⟨x, rfl, hx, g, rfl⟩ := hq
  exact ⟨_, rfl, hx.trans (show quarM I1 cb ce nh na v w z = quarM I cb ce nh na v w z from by have h9 := congrArg (fun r => quarM r cb ce nh na v w z) X; exact h9), _, rfl, AG.up g⟩
set_option maxRecDepth 100000 in
set_option maxHeartbeats 4000000 in
theorem QC_how {d : Nat} {I : Nat → Nat → Int32} {J : Nat → Nat → Int64} {K : Nat → Nat → Option Nat} {h : List xSh} (S : St K h) {nh na dd cb ce tw : Nat} (C : CR I K h I na tw) (M : MI I nh na dd cb ce) (Q : AR I nh na dd)  (v : Int32) : EvP (d + 20) 82 0 [(0, .ref 0), (1, .int v)] [] (I, J, K, h) (QI (fun x t => x = howM I nh v ∧ ∃ I1, t = (I1, J, K, h) ∧ CX I I1)) := by
  refine EvP.mono (C_how (d := d + 19) S C M Q v) (fun r t hq => ?_)
  obtain ⟨x, rfl, hx, rfl⟩ := hq
  exact ⟨_, rfl, hx, _, rfl, CX.refl I⟩
set_option maxRecDepth 100000 in
set_option maxHeartbeats 4000000 in
theorem QM_how {d : Nat} {I : Nat → Nat → Int32} {J : Nat → Nat → Int64} {K : Nat → Nat → Option Nat} {h : List xSh} (S : St K h) {I1 : Nat → Nat → Int32} (X : hi9 I1 = hi9 I) {nh na dd cb ce : Nat} (M : MI I nh na dd cb ce)  (v : Int32) : EvP (d + 20) 201 0 [(0, .ref 98), (1, .int v)] [] (I1, J, K, h) (QI (fun x t => x = howM I nh v ∧ ∃ I2, t = (I2, J, K, h) ∧ AG I1 I2)) := by
  refine EvP.mono (M_how (d := d + 19) S (hi_mi X M) v) (fun r t hq => ?_)
  obtain ⟨x, rfl, hx, rfl⟩ := hq
  exact ⟨_, rfl, hx.trans (show howM I1 nh v = howM I nh v from by have h9 := congrArg (fun r => howM r nh v) X; exact h9), _, rfl, AG.refl I1⟩
set_option maxRecDepth 100000 in
set_option maxHeartbeats 4000000 in
theorem QC_wore {d : Nat} {I : Nat → Nat → Int32} {J : Nat → Nat → Int64} {K : Nat → Nat → Option Nat} {h : List xSh} (S : St K h) {nh na dd cb ce tw : Nat} (C : CR I K h I na tw) (M : MI I nh na dd cb ce) (Q : AR I nh na dd) {sn : Nat} (hsn : I 98 43 = nI sn) (hs6 : sn ≤ 6) (v : Int32) : EvP (d + 20) 84 0 [(0, .ref 0), (1, .int v)] [] (I, J, K, h) (QI (fun x t => x = woreM I cb ce nh na sn v ∧ ∃ I1, t = (I1, J, K, h) ∧ CX I I1)) := by
  refine p_self 39 ?_
  refine EvP.mono (C_wore (d := d + 13) S C M Q (I 39) hsn hs6 v) (fun r t hq => ?_)
  obtain ⟨x, rfl, hx, g, rfl⟩ := hq
  exact ⟨_, rfl, hx, _, rfl, (CX.refl I).up (by decide) g⟩
set_option maxRecDepth 100000 in
set_option maxHeartbeats 4000000 in
theorem QM_wore {d : Nat} {I : Nat → Nat → Int32} {J : Nat → Nat → Int64} {K : Nat → Nat → Option Nat} {h : List xSh} (S : St K h) {I1 : Nat → Nat → Int32} (X : hi9 I1 = hi9 I) {nh na dd cb ce : Nat} (M : MI I nh na dd cb ce) {sn : Nat} (hsn : I 98 43 = nI sn) (hs6 : sn ≤ 6) (v : Int32) : EvP (d + 20) 204 0 [(0, .ref 98), (1, .int v)] [] (I1, J, K, h) (QI (fun x t => x = woreM I cb ce nh na sn v ∧ ∃ I2, t = (I2, J, K, h) ∧ AG I1 I2)) := by
  refine p_self 120 ?_
  refine EvP.mono (M_wore (d := d + 15) S (hi_mi X M) (I1 120) (show I1 98 43 = nI sn from (congrFun (congrFun X 98) 43).trans hsn) hs6 v) (fun r t hq => ?_)
  obtain ⟨x, rfl, hx, g, rfl⟩ := hq
  exact ⟨_, rfl, hx.trans (show woreM I1 cb ce nh na sn v = woreM I cb ce nh na sn v from by have h9 := congrArg (fun r => woreM r cb ce nh na sn v) X; exact h9), _, rfl, AG.up g⟩
set_option maxRecDepth 100000 in
set_option maxHeartbeats 4000000 in
theorem QC_who {d : Nat} {I : Nat → Nat → Int32} {J : Nat → Nat → Int64} {K : Nat → Nat → Option Nat} {h : List xSh} (S : St K h) {nh na dd cb ce tw : Nat} (C : CR I K h I na tw) (M : MI I nh na dd cb ce) (Q : AR I nh na dd) {sn : Nat} (hsn : I 98 43 = nI sn) (hs6 : sn ≤ 6) : EvP (d + 20) 85 0 [(0, .ref 0)] [] (I, J, K, h) (QI (fun x t => x = whoM I cb ce nh na sn ∧ ∃ I1, t = (I1, J, K, h) ∧ CX I I1)) := by
  refine p_self 39 ?_
  refine EvP.mono (C_who (d := d + 13) S C M Q (I 39) hsn hs6) (fun r t hq => ?_)
  obtain ⟨x, rfl, hx, w9, g, rfl⟩ := hq
  exact ⟨_, rfl, hx, _, rfl, ((CX.refl I).up (by decide) w9).up (by decide) g⟩
set_option maxRecDepth 100000 in
set_option maxHeartbeats 4000000 in
theorem QM_who {d : Nat} {I : Nat → Nat → Int32} {J : Nat → Nat → Int64} {K : Nat → Nat → Option Nat} {h : List xSh} (S : St K h) {I1 : Nat → Nat → Int32} (X : hi9 I1 = hi9 I) {nh na dd cb ce : Nat} (M : MI I nh na dd cb ce) {sn : Nat} (hsn : I 98 43 = nI sn) (hs6 : sn ≤ 6) : EvP (d + 20) 205 0 [(0, .ref 98)] [] (I1, J, K, h) (QI (fun x t => x = whoM I cb ce nh na sn ∧ ∃ I2, t = (I2, J, K, h) ∧ AG I1 I2)) := by
  refine p_self 120 ?_
  refine EvP.mono (M_who (d := d + 15) S (hi_mi X M) (I1 120) (show I1 98 43 = nI sn from (congrFun (congrFun X 98) 43).trans hsn) hs6) (fun r t hq => ?_)
  obtain ⟨x, rfl, hx, u, g, rfl⟩ := hq
  exact ⟨_, rfl, hx.trans (show whoM I1 cb ce nh na sn = whoM I cb ce nh na sn from by have h9 := congrArg (fun r => whoM r cb ce nh na sn) X; exact h9), _, rfl, fun c k z => by
    by_cases e1 : c = 120
    · subst e1; cases z
    · by_cases e2 : c = 130
      · subst e2; cases z
      · rw [upc_ne _ _ e1, upc_ne _ _ e2]⟩
set_option maxRecDepth 100000 in
set_option maxHeartbeats 4000000 in
theorem QC_odds {d : Nat} {I : Nat → Nat → Int32} {J : Nat → Nat → Int64} {K : Nat → Nat → Option Nat} {h : List xSh} (S : St K h) {nh na dd cb ce tw : Nat} (C : CR I K h I na tw) (M : MI I nh na dd cb ce) (Q : AR I nh na dd)  (q : Int32) (p : Int32) : EvP (d + 20) 86 0 [(0, .ref 0), (1, .int q), (2, .int p)] [] (I, J, K, h) (QL (fun x t => x = oddM I nh cb ce q p ∧ ∃ I1, t = (I1, J, K, h) ∧ CX I I1)) := by
  refine p_self 39 ?_
  refine EvP.mono (C_odds (d := d + 12) S C M Q (I 39) q p) (fun r t hq => ?_)
  obtain ⟨x, rfl, hx, g, rfl⟩ := hq
  exact ⟨_, rfl, hx, _, rfl, (CX.refl I).up (by decide) g⟩
set_option maxRecDepth 100000 in
set_option maxHeartbeats 4000000 in
theorem QM_odds {d : Nat} {I : Nat → Nat → Int32} {J : Nat → Nat → Int64} {K : Nat → Nat → Option Nat} {h : List xSh} (S : St K h) {I1 : Nat → Nat → Int32} (X : hi9 I1 = hi9 I) {nh na dd cb ce : Nat} (M : MI I nh na dd cb ce) (hmu : I 98 33 = nI 9999) (q : Int32) (p : Int32) : EvP (d + 20) 208 0 [(0, .ref 98), (1, .int q), (2, .int p)] [] (I1, J, K, h) (QL (fun x t => x = oddM I nh cb ce q p ∧ ∃ I2, t = (I2, J, K, h) ∧ AG I1 I2)) := by
  refine EvP.mono (M_odds (d := d + 15) S (hi_mi X M) (show I1 98 33 = nI 9999 from (congrFun (congrFun X 98) 33).trans hmu) q p) (fun r t hq => ?_)
  obtain ⟨x, rfl, hx, I2, rfl, hA⟩ := hq
  exact ⟨_, rfl, hx.trans (show oddM I1 nh cb ce q p = oddM I nh cb ce q p from by have h9 := congrArg (fun r => oddM r nh cb ce q p) X; exact h9), _, rfl, hA⟩
set_option maxRecDepth 100000 in
set_option maxHeartbeats 4000000 in
theorem QC_mean {d : Nat} {I : Nat → Nat → Int32} {J : Nat → Nat → Int64} {K : Nat → Nat → Option Nat} {h : List xSh} (S : St K h) {nh na dd cb ce tw : Nat} (C : CR I K h I na tw) (M : MI I nh na dd cb ce) (Q : AR I nh na dd) (hD : DB I cb ce nh na) (v : Int32) (p : Int32) : EvP (d + 20) 87 0 [(0, .ref 0), (1, .int v), (2, .int p)] [] (I, J, K, h) (QL (fun x t => x = meaM I nh na cb ce v p ∧ ∃ I1, t = (I1, J, K, h) ∧ CX I I1)) := by
  refine p_self 39 ?_
  refine EvP.mono (C_mean (d := d + 14) S C M Q (I 39) hD v p) (fun r t hq => ?_)
  obtain ⟨x, rfl, hx, g, rfl⟩ := hq
  exact ⟨_, rfl, hx, _, rfl, (CX.refl I).up (by decide) g⟩
set_option maxRecDepth 100000 in
set_option maxHeartbeats 4000000 in
theorem QM_mean {d : Nat} {I : Nat → Nat → Int32} {J : Nat → Nat → Int64} {K : Nat → Nat → Option Nat} {h : List xSh} (S : St K h) {I1 : Nat → Nat → Int32} (X : hi9 I1 = hi9 I) {nh na dd cb ce : Nat} (M : MI I nh na dd cb ce) (hD : DB I cb ce nh na) (v : Int32) (p : Int32) : EvP (d + 20) 209 0 [(0, .ref 98), (1, .int v), (2, .int p)] [] (I1, J, K, h) (QL (fun x t => x = meaM I nh na cb ce v p ∧ ∃ I2, t = (I2, J, K, h) ∧ AG I1 I2)) := by
  refine p_self 120 ?_
  refine EvP.mono (M_mean (d := d + 16) S (hi_mi X M) (I1 120) (hi_db X hD) v p) (fun r t hq => ?_)
  obtain ⟨x, rfl, hx, g, rfl⟩ := hq
  exact ⟨_, rfl, hx.trans (show meaM I1 nh na cb ce v p = meaM I nh na cb ce v p from by have h9 := congrArg (fun r => meaM r nh na cb ce v p) X; exact h9), _, rfl, AG.up g⟩
set_option maxRecDepth 100000 in
set_option maxHeartbeats 4000000 in
theorem QC_looked {d : Nat} {I : Nat → Nat → Int32} {J : Nat → Nat → Int64} {K : Nat → Nat → Option Nat} {h : List xSh} (S : St K h) {nh na dd cb ce tw : Nat} (C : CR I K h I na tw) (M : MI I nh na dd cb ce) (Q : AR I nh na dd) {bn : Nat} (hbn : I 98 47 = nI bn) (hb8 : bn ≤ 8) (hbk : ∀ k, k < bn → (∃ a, a < na ∧ I 131 k = nI a) ∧ ∃ q, q < nh ∧ I 132 k = nI q) : EvP (d + 20) 89 0 [(0, .ref 0)] [] (I, J, K, h) (QI (fun x t => x = lookM I bn ∧ ∃ I1, t = (I1, J, K, h) ∧ CX I I1)) := by
  refine EvP.mono (C_looked (d := d + 19) S C M Q hbn hb8 hbk) (fun r t hq => ?_)
  obtain ⟨x, rfl, hx, rfl⟩ := hq
  exact ⟨_, rfl, hx, _, rfl, CX.refl I⟩
set_option maxRecDepth 100000 in
set_option maxHeartbeats 4000000 in
theorem QM_looked {d : Nat} {I : Nat → Nat → Int32} {J : Nat → Nat → Int64} {K : Nat → Nat → Option Nat} {h : List xSh} (S : St K h) {I1 : Nat → Nat → Int32} (X : hi9 I1 = hi9 I) {nh na dd cb ce : Nat} (M : MI I nh na dd cb ce) {bn : Nat} (hbn : I 98 47 = nI bn) (hb8 : bn ≤ 8) (hbk : ∀ k, k < bn → (∃ a, a < na ∧ I 131 k = nI a) ∧ ∃ q, q < nh ∧ I 132 k = nI q) : EvP (d + 20) 211 0 [(0, .ref 98)] [] (I1, J, K, h) (QI (fun x t => x = lookM I bn ∧ ∃ I2, t = (I2, J, K, h) ∧ AG I1 I2)) := by
  refine EvP.mono (M_looked (d := d + 20) S  (show I1 98 47 = nI bn from (congrFun (congrFun X 98) 47).trans hbn) hb8 (fun k hk => by obtain ⟨_, q, h1, h2⟩ := hbk k hk; have h6 := M.nh6; exact ⟨q, by omega, (show I1 132 k = I 132 k from congrFun (congrFun X 132) k).trans h2⟩)) (fun r t hq => ?_)
  obtain ⟨x, rfl, hx, rfl⟩ := hq
  exact ⟨_, rfl, hx.trans (show lookM I1 bn = lookM I bn from by have h9 := congrArg (fun r => lookM r bn) X; exact h9), _, rfl, AG.refl I1⟩
set_option maxRecDepth 100000 in
set_option maxHeartbeats 4000000 in
theorem QC_taken {d : Nat} {I : Nat → Nat → Int32} {J : Nat → Nat → Int64} {K : Nat → Nat → Option Nat} {h : List xSh} (S : St K h) {nh na dd cb ce tw : Nat} (C : CR I K h I na tw) (M : MI I nh na dd cb ce) (Q : AR I nh na dd)  (v : Int32) (w : Int32) : EvP (d + 20) 95 0 [(0, .ref 0), (1, .int v), (2, .int w)] [] (I, J, K, h) (QI (fun x t => x = takM I na v w ∧ ∃ I1, t = (I1, J, K, h) ∧ CX I I1)) := by
  refine EvP.mono (C_taken (d := d + 19) S C M Q v w) (fun r t hq => ?_)
  obtain ⟨x, rfl, hx, rfl⟩ := hq
  exact ⟨_, rfl, hx, _, rfl, CX.refl I⟩
set_option maxRecDepth 100000 in
set_option maxHeartbeats 4000000 in
theorem QM_taken {d : Nat} {I : Nat → Nat → Int32} {J : Nat → Nat → Int64} {K : Nat → Nat → Option Nat} {h : List xSh} (S : St K h) {I1 : Nat → Nat → Int32} (X : hi9 I1 = hi9 I) {nh na dd cb ce : Nat} (M : MI I nh na dd cb ce)  (v : Int32) (w : Int32) : EvP (d + 20) 225 0 [(0, .ref 98), (1, .int v), (2, .int w)] [] (I1, J, K, h) (QI (fun x t => x = takM I na v w ∧ ∃ I2, t = (I2, J, K, h) ∧ AG I1 I2)) := by
  refine EvP.mono (M_taken (d := d + 18) S (hi_mi X M) v w) (fun r t hq => ?_)
  obtain ⟨x, rfl, hx, rfl⟩ := hq
  exact ⟨_, rfl, hx.trans (show takM I1 na v w = takM I na v w from by have h9 := congrArg (fun r => takM r na v w) X; exact h9), _, rfl, AG.refl I1⟩
set_option maxRecDepth 100000 in
set_option maxHeartbeats 4000000 in
theorem QC_trace {d : Nat} {I : Nat → Nat → Int32} {J : Nat → Nat → Int64} {K : Nat → Nat → Option Nat} {h : List xSh} (S : St K h) {nh na dd cb ce tw : Nat} (C : CR I K h I na tw) (M : MI I nh na dd cb ce) (Q : AR I nh na dd) {r : Nat} (hr : I 98 72 = nI r) (hr1 : r < 100) (htr : I 36 1 = I 98 72) (htr2 : I 37 = I 148) (v : Int32) : EvP (d + 20) 94 0 [(0, .ref 0), (1, .int v)] [] (I, J, K, h) (QI (fun x t => x = traceM I v ∧ ∃ I1, t = (I1, J, K, h) ∧ CX I I1)) := by
  refine EvP.mono (C_trace (d := d + 19) S C M Q hr hr1 htr htr2 v) (fun r t hq => ?_)
  obtain ⟨x, rfl, hx, rfl⟩ := hq
  exact ⟨_, rfl, hx, _, rfl, CX.refl I⟩
set_option maxRecDepth 100000 in
set_option maxHeartbeats 4000000 in
theorem QM_trace {d : Nat} {I : Nat → Nat → Int32} {J : Nat → Nat → Int64} {K : Nat → Nat → Option Nat} {h : List xSh} (S : St K h) {I1 : Nat → Nat → Int32} (X : hi9 I1 = hi9 I) {nh na dd cb ce : Nat} (M : MI I nh na dd cb ce)  (v : Int32) : EvP (d + 20) 224 0 [(0, .ref 98), (1, .int v)] [] (I1, J, K, h) (QI (fun x t => x = traceM I v ∧ ∃ I2, t = (I2, J, K, h) ∧ AG I1 I2)) := by
  refine EvP.mono (M_trace (d := d + 19) S  v) (fun r t hq => ?_)
  obtain ⟨x, rfl, hx, rfl⟩ := hq
  exact ⟨_, rfl, hx.trans (show traceM I1 v = traceM I v from by have h9 := congrArg (fun r => traceM r v) X; exact h9), _, rfl, AG.refl I1⟩
set_option maxRecDepth 100000 in
set_option maxHeartbeats 4000000 in
theorem QC_count {d : Nat} {I : Nat → Nat → Int32} {J : Nat → Nat → Int64} {K : Nat → Nat → Option Nat} {h : List xSh} (S : St K h) {nh na dd cb ce tw : Nat} (C : CR I K h I na tw) (M : MI I nh na dd cb ce) (Q : AR I nh na dd) (htw : I 0 7 = I 98 14) (htb : I 0 4 = I 98 16) (htr : I 36 1 = I 98 72) (w : Int32) : EvP (d + 20) 96 0 [(0, .ref 0), (1, .int w)] [] (I, J, K, h) (QI (fun x t => x = countM I w ∧ ∃ I1, t = (I1, J, K, h) ∧ CX I I1)) := by
  refine EvP.mono (C_count (d := d + 20) S C M Q htw htb htr w) (fun r t hq => ?_)
  obtain ⟨x, rfl, hx, rfl⟩ := hq
  exact ⟨_, rfl, hx, _, rfl, CX.refl I⟩
set_option maxRecDepth 100000 in
set_option maxHeartbeats 4000000 in
theorem QM_count {d : Nat} {I : Nat → Nat → Int32} {J : Nat → Nat → Int64} {K : Nat → Nat → Option Nat} {h : List xSh} (S : St K h) {I1 : Nat → Nat → Int32} (X : hi9 I1 = hi9 I) {nh na dd cb ce : Nat} (M : MI I nh na dd cb ce)  (w : Int32) : EvP (d + 20) 226 0 [(0, .ref 98), (1, .int w)] [] (I1, J, K, h) (QI (fun x t => x = countM I w ∧ ∃ I2, t = (I2, J, K, h) ∧ AG I1 I2)) := by
  refine EvP.mono (M_count (d := d + 20) S  w) (fun r t hq => ?_)
  obtain ⟨x, rfl, hx, rfl⟩ := hq
  exact ⟨_, rfl, hx.trans (show countM I1 w = countM I w from by have h9 := congrArg (fun r => countM r w) X; exact h9), _, rfl, AG.refl I1⟩
