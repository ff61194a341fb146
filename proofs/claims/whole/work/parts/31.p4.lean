/-! the reference reads: E by its steps is E by descent -/
/-- a code as the reference writes it -/
def rtN (k : Nat) : Int32 := if k = 6000 then -33 else if k = 6001 then -38 else if k = 6002 then -124 else nI k
def opN (L : List Nat) : List Nat := L.map (fun a => if a = 38 then 6001 else 6002)
theorem ng_op {P : List Nat} (hP : ∀ a ∈ P, a = 38 ∨ a = 124) : ngL P = (opN P).map rtN := by
  induction P with
  | nil => rfl
  | cons a P ih =>
    show -nI a :: ngL P = rtN (if a = 38 then 6001 else 6002) :: (opN P).map rtN
    rw [ih (fun b hb => hP b (List.mem_cons_of_mem _ hb))]
    rcases hP a (List.mem_cons_self ..) with e | e
    · subst e; rw [if_pos rfl]; congr 1
    · subst e; rw [if_neg (by decide)]; congr 1
def HD (d cl s0 n : Nat) (c : Nat → Nat) (I : Nat → Nat → Int32) (J : Nat → Nat → Int64) (K : Nat → Nat → Option Nat) (h : List xSh) (g0 : Nat → Int32) (Φ : xPost) (b : Bool) (p : Nat) (V : Int32) (s : Nat) (Ws : List Nat) (t g u : Nat → Int32) : Prop := EvP (d + 4) 154 22 [(0, .ref 98), (1, .int (nI cl)), (2, .int (bI b))] [] (eI (upc I 116 t) (nI p) V (nI s) (nI Ws.length) (nI (cntW Ws)) g u, J, K, h) Φ
/-- a state as it should be -/
def OKs (cl s0 n : Nat) (I : Nat → Nat → Int32) (g0 : Nat → Int32) (p s : Nat) (Ws : List Nat) (t g u : Nat → Int32) : Prop := s0 ≤ s ∧ s + Ws.length ≤ s0 + p ∧ p ≤ n ∧ stk u 0 Ws ∧ sgOK Ws ∧ (∀ i, i < s0 → g i = g0 i) ∧ (∀ k, k ≠ cl → t k = I 116 k)
def FAI (d cl s0 n : Nat) (c : Nat → Nat) (I : Nat → Nat → Int32) (J : Nat → Nat → Int64) (K : Nat → Nat → Option Nat) (h : List xSh) (g0 : Nat → Int32) (Φ : xPost) (q : Nat) : Prop := ∀ (V Sg W O : Int32) (t g u : Nat → Int32), (∀ i, i < s0 → g i = g0 i) → (∀ k, k ≠ cl → t k = I 116 k) → Φ (some (.int (bI false))) (eI (upc I 116 t) (nI q) V Sg W O g u, J, K, h)
/-- the reader f of an F does as the steps do, o others being open -/
def FLm (d cl s0 n : Nat) (c : Nat → Nat) (I : Nat → Nat → Int32) (J : Nat → Nat → Int64) (K : Nat → Nat → Option Nat) (h : List xSh) (g0 : Nat → Int32) (Φ : xPost) (o : Nat) (f : Nat → Nat × Option (List Nat)) : Prop := ∀ (p : Nat) (V : Int32) (s k : Nat) (W0 : List Nat) (t g u : Nat → Int32), OKs cl s0 n I g0 p s (List.replicate k 33 ++ W0) t g u → cntW (List.replicate k 33 ++ W0) = o → hdN_ (fun a => a ≠ 33) W0 →
  (∀ q L, f p = (q, some L) → (∀ V' t' u', OKs cl s0 n I g0 q (s + L.length + k) W0 t' (ems g s (L.map rtN ++ List.replicate k (-33))) u' → HD d cl s0 n c I J K h g0 Φ false q V' (s + L.length + k) W0 t' (ems g s (L.map rtN ++ List.replicate k (-33))) u') → HD d cl s0 n c I J K h g0 Φ true p V s (List.replicate k 33 ++ W0) t g u) ∧
  (∀ q, f p = (q, none) → FAI d cl s0 n c I J K h g0 Φ q → HD d cl s0 n c I J K h g0 Φ true p V s (List.replicate k 33 ++ W0) t g u)
/-- below an E: nothing, or an open ( -/
def stopB (L : List Nat) : Prop := hdN_ (fun a => a ≠ 33 ∧ a ≠ 38 ∧ a ≠ 124) L
theorem pp_sub {pt pe : List Nat} (h1 : pt = [] ∨ pt = [38]) (h2 : pe = [] ∨ pe = [124]) : ∀ a ∈ pt ++ pe, a = 38 ∨ a = 124 := by
  intro a ha
  rcases h1 with rfl | rfl <;> rcases h2 with rfl | rfl
  · cases ha
  · rw [List.nil_append, List.mem_singleton] at ha; exact Or.inr ha
  · rw [List.append_nil, List.mem_singleton] at ha; exact Or.inl ha
  · rcases List.mem_append.mp ha with e | e
    · rw [List.mem_singleton] at e; exact Or.inl e
    · rw [List.mem_singleton] at e; exact Or.inr e
theorem cnt_pp {P : List Nat} (h : ∀ a ∈ P, a = 38 ∨ a = 124) : cntW P = 0 := by
  induction P with
  | nil => rfl
  | cons a P ih =>
    show (if a = 33 ∨ a = 40 then 1 else 0) + cntW P = 0
    rw [ih (fun b hb => h b (List.mem_cons_of_mem _ hb)), if_neg (by rcases h a (List.mem_cons_self ..) with e | e <;> omega)]
theorem ems2 (g : Nat → Int32) (s s2 : Nat) (X Y : List Nat) (hs : s2 = s + X.length) : ems (ems g s (X.map rtN)) s2 (Y.map rtN) = ems g s ((X ++ Y).map rtN) := by
  rw [List.map_append, ems_app, List.length_map, hs]
theorem sgOK_app {A B : List Nat} (h : sgOK (A ++ B)) : sgOK B := fun a ha => h a (List.mem_append_right _ ha)
section PP
variable {d cl s0 n : Nat} {c : Nat → Nat} {I : Nat → Nat → Int32} {J : Nat → Nat → Int64} {K : Nat → Nat → Option Nat} {h : List xSh} {g0 : Nat → Int32} {Φ : xPost}
/-- a T's rest -/
theorem L_Tl (S : St K h) (X : TX I c n) (hcl : cl < 60) (h5 : s0 ≤ 500) {o m : Nat} {f : Nat → Nat × Option (List Nat)} (FL : FLm d cl s0 n c I J K h g0 Φ o f) (hf : PG n m f) {pe Wb : List Nat} (hpe : pe = [] ∨ pe = [124]) (hWb : stopB Wb) (ho : cntW Wb = o) {s1 : Nat} {g1 : Nat → Int32} :
    ∀ (j q : Nat) (V : Int32) (pt Y : List Nat) (t u : Nat → Int32), pt = [] ∨ pt = [38] → OKs cl s0 n I g0 q (s1 + Y.length) (pt ++ (pe ++ Wb)) t (ems g1 s1 (Y.map rtN)) u → n ≤ j + q →
    (∀ q' L', pTl c f j q (Y ++ opN pt) = (q', some L') → (∀ V' pt' Y' t' u', (pt' = [] ∨ pt' = [38]) → OKs cl s0 n I g0 q' (s1 + Y'.length) (pt' ++ (pe ++ Wb)) t' (ems g1 s1 (Y'.map rtN)) u' → L' = Y' ++ opN pt' → c q' ≠ 38 → HD d cl s0 n c I J K h g0 Φ false q' V' (s1 + Y'.length) (pt' ++ (pe ++ Wb)) t' (ems g1 s1 (Y'.map rtN)) u') → HD d cl s0 n c I J K h g0 Φ false q V (s1 + Y.length) (pt ++ (pe ++ Wb)) t (ems g1 s1 (Y.map rtN)) u) ∧
    (∀ q', pTl c f j q (Y ++ opN pt) = (q', none) → FAI d cl s0 n c I J K h g0 Φ q' → HD d cl s0 n c I J K h g0 Φ false q V (s1 + Y.length) (pt ++ (pe ++ Wb)) t (ems g1 s1 (Y.map rtN)) u) := by
  intro j
  induction j with
  | zero =>
    intro q V pt Y t u hpt hok hj
    have hq : c q ≠ 38 := by
      have := (X.2.2.1 q).1 (by omega)
      omega
    exact ⟨fun q' L' e k => by cases e; exact k V pt Y t u hpt hok rfl hq, fun q' e _ => by cases e⟩
  | succ j ih =>
    intro q V pt Y t u hpt hok hj
    by_cases hq : c q = 38
    · obtain ⟨k1, k2, k3, k4, k5, k6, k7⟩ := hok
      have hn := X.2.1
      have hqn := X.2.2.1.lt (p := q) (by omega)
      have hlen : (pt ++ (pe ++ Wb)).length = (pe ++ Wb).length + pt.length := by rw [List.length_append]; omega
      have hptl : pt.length ≤ 1 := by rcases hpt with rfl | rfl <;> decide
      have hpt2 : ∀ a ∈ pt, a = 38 ∨ a = 124 := fun a ha => pp_sub hpt (Or.inl rfl) a (by rw [List.append_nil]; exact ha)
      have hW0 : hdN_ (fun a => a ≠ 38 ∧ (a = 124 → 38 = 38)) (pe ++ Wb) := by
        intro a R e
        refine ⟨?_, fun _ => rfl⟩
        rcases hpe with rfl | rfl
        · exact (hWb a R e).2.1
        · cases e; decide
      have hcnt : cntW (pt ++ (pe ++ Wb)) = cntW (38 :: (pe ++ Wb)) := by
        rw [cnt_app, cnt_pp hpt2]
        show 0 + cntW (pe ++ Wb) = (if 38 = 33 ∨ 38 = 40 then 1 else 0) + cntW (pe ++ Wb)
        rw [if_neg (by decide)]
      have hg2 : ems (ems g1 s1 (Y.map rtN)) (s1 + Y.length) (ngL pt) = ems g1 s1 ((Y ++ opN pt).map rtN) := by rw [ng_op hpt2, ems2 _ _ _ _ _ rfl]
      have hs2 : s1 + Y.length + pt.length = s1 + (Y ++ opN pt).length := by rw [List.length_append, opN, List.length_map]; omega
      have step : ∀ {u' : Nat → Int32}, u' = upc u (pe ++ Wb).length (nI 38) → HD d cl s0 n c I J K h g0 Φ true (q + 1) V (s1 + (Y ++ opN pt).length) (38 :: (pe ++ Wb)) t (ems g1 s1 ((Y ++ opN pt).map rtN)) u' → HD d cl s0 n c I J K h g0 Φ false q V (s1 + Y.length) (pt ++ (pe ++ Wb)) t (ems g1 s1 (Y.map rtN)) u := by
        intro u' hu' k
        subst hu'
        unfold HD
        rw [hlen, hcnt]
        refine E_op S X (x := 38) hq (Or.inl rfl) (by omega) (by omega) (fun a ha => Or.inl (by rcases hpt with rfl | rfl; cases ha; rw [List.mem_singleton] at ha; exact ha)) k4 (sgOK_app k5) hW0 ?_
        rw [hg2, hs2]
        exact k
      have hok2 : OKs cl s0 n I g0 (q + 1) (s1 + (Y ++ opN pt).length) (List.replicate 0 33 ++ (38 :: (pe ++ Wb))) t (ems g1 s1 ((Y ++ opN pt).map rtN)) (upc u (pe ++ Wb).length (nI 38)) := by
        refine ⟨by omega, ?_, by omega, stk_push (stk_app.mp k4).2, ?_, fun i hi => ?_, k7⟩
        · show s1 + (Y ++ opN pt).length + ((pe ++ Wb).length + 1) ≤ s0 + (q + 1); omega
        · intro a ha
          rcases List.mem_cons.mp ha with e | e
          · exact Or.inr (Or.inr (Or.inl e))
          · exact sgOK_app k5 a e
        · rw [← ems2 _ _ _ _ _ rfl, ems_lo _ _ _ _ (by omega)]; exact k6 i hi
      have hFo : cntW (List.replicate 0 33 ++ (38 :: (pe ++ Wb))) = o := by
        show cntW (38 :: (pe ++ Wb)) = o
        rw [← hcnt, cnt_app, cnt_pp hpt2, cnt_app, ho, cnt_pp (P := pe) (fun a ha => pp_sub (Or.inl rfl) hpe a ha)]
        omega
      have hF := FL (q + 1) V (s1 + (Y ++ opN pt).length) 0 (38 :: (pe ++ Wb)) t _ _ hok2 hFo (fun a R e => by cases e; decide)
      cases e : f (q + 1) with
      | mk q1 r =>
        rw [show pTl c f (j + 1) q (Y ++ opN pt) = bnd (f (q + 1)) (fun q1 L1 => pTl c f j q1 (Y ++ opN pt ++ L1 ++ [6001])) from if_pos hq, e]
        cases r with
        | none => exact ⟨fun q' L' e2 => (by cases e2), fun q' e2 hfai => by cases e2; exact step rfl (hF.2 _ e hfai)⟩
        | some L1 =>
          obtain ⟨p1, p2, p3, p4⟩ := (hf (q + 1)).1 q1 L1 e
          have hI : ∀ (V' : Int32) (t' u' : Nat → Int32), OKs cl s0 n I g0 q1 (s1 + (Y ++ opN pt).length + L1.length + 0) (38 :: (pe ++ Wb)) t' (ems (ems g1 s1 ((Y ++ opN pt).map rtN)) (s1 + (Y ++ opN pt).length) (L1.map rtN ++ List.replicate 0 (-33))) u' → OKs cl s0 n I g0 q1 (s1 + (Y ++ opN pt ++ L1).length) ([38] ++ (pe ++ Wb)) t' (ems g1 s1 ((Y ++ opN pt ++ L1).map rtN)) u' := by
            intro V' t' u' hk
            rw [show L1.map rtN ++ List.replicate 0 (-33) = L1.map rtN from List.append_nil _, ems2 _ _ _ _ _ rfl] at hk
            rw [show s1 + (Y ++ opN pt ++ L1).length = s1 + (Y ++ opN pt).length + L1.length + 0 by rw [List.length_append (as := Y ++ opN pt)]; omega]
            exact hk
          have hE : ∀ {V' : Int32} {t' u' : Nat → Int32}, HD d cl s0 n c I J K h g0 Φ false q1 V' (s1 + (Y ++ opN pt ++ L1).length) ([38] ++ (pe ++ Wb)) t' (ems g1 s1 ((Y ++ opN pt ++ L1).map rtN)) u' → HD d cl s0 n c I J K h g0 Φ false q1 V' (s1 + (Y ++ opN pt).length + L1.length + 0) (38 :: (pe ++ Wb)) t' (ems (ems g1 s1 ((Y ++ opN pt).map rtN)) (s1 + (Y ++ opN pt).length) (L1.map rtN ++ List.replicate 0 (-33))) u' := by
            intro V' t' u' hk
            rw [show L1.map rtN ++ List.replicate 0 (-33) = L1.map rtN from List.append_nil _, ems2 _ _ _ _ _ rfl, show s1 + (Y ++ opN pt).length + L1.length + 0 = s1 + (Y ++ opN pt ++ L1).length by rw [List.length_append (as := Y ++ opN pt)]; omega]
            exact hk
          refine ⟨fun q' L' e2 k => step rfl (hF.1 _ _ e (fun V' t' u' hk => hE ?_)), fun q' e2 hfai => step rfl (hF.1 _ _ e (fun V' t' u' hk => hE ?_))⟩
          · exact (ih q1 V' [38] (Y ++ opN pt ++ L1) t' u' (Or.inr rfl) (hI V' t' u' hk) (by omega)).1 q' L' e2 k
          · exact (ih q1 V' [38] (Y ++ opN pt ++ L1) t' u' (Or.inr rfl) (hI V' t' u' hk) (by omega)).2 q' e2 hfai
    · rw [show pTl c f (j + 1) q (Y ++ opN pt) = (q, some (Y ++ opN pt)) from if_neg hq]
      exact ⟨fun q' L' e k => by cases e; exact k V pt Y t u hpt hok rfl hq, fun q' e _ => by cases e⟩
/-- a T -/
theorem L_T (S : St K h) (X : TX I c n) (hcl : cl < 60) (h5 : s0 ≤ 500) {o m : Nat} {f : Nat → Nat × Option (List Nat)} (FL : FLm d cl s0 n c I J K h g0 Φ o f) (hf : PG n m f) {pe Wb : List Nat} (hpe : pe = [] ∨ pe = [124]) (hWb : stopB Wb) (ho : cntW Wb = o) {p s : Nat} {V : Int32} {t g u : Nat → Int32} (hok : OKs cl s0 n I g0 p s (pe ++ Wb) t g u) :
    (∀ q' L', pT c f n p = (q', some L') → (∀ V' pt' Y' t' u', (pt' = [] ∨ pt' = [38]) → OKs cl s0 n I g0 q' (s + Y'.length) (pt' ++ (pe ++ Wb)) t' (ems g s (Y'.map rtN)) u' → L' = Y' ++ opN pt' → c q' ≠ 38 → HD d cl s0 n c I J K h g0 Φ false q' V' (s + Y'.length) (pt' ++ (pe ++ Wb)) t' (ems g s (Y'.map rtN)) u') → HD d cl s0 n c I J K h g0 Φ true p V s (pe ++ Wb) t g u) ∧
    (∀ q', pT c f n p = (q', none) → FAI d cl s0 n c I J K h g0 Φ q' → HD d cl s0 n c I J K h g0 Φ true p V s (pe ++ Wb) t g u) := by
  have hFo : cntW (List.replicate 0 33 ++ (pe ++ Wb)) = o := by
    show cntW (pe ++ Wb) = o
    rw [cnt_app, ho, cnt_pp (P := pe) (fun a ha => pp_sub (Or.inl rfl) hpe a ha)]
    omega
  have h33 : hdN_ (fun a => a ≠ 33) (pe ++ Wb) := by
    intro a R e
    rcases hpe with rfl | rfl
    · exact (hWb a R e).1
    · cases e; decide
  have hF := FL p V s 0 (pe ++ Wb) t g u hok hFo h33
  cases e : f p with
  | mk q1 r =>
    rw [show pT c f n p = bnd (f p) (fun q L => pTl c f n q L) from rfl, e]
    cases r with
    | none => exact ⟨fun q' L' e2 => (by cases e2), fun q' e2 hfai => by cases e2; exact hF.2 _ e hfai⟩
    | some L1 =>
      obtain ⟨p1, p2, p3, p4⟩ := (hf p).1 q1 L1 e
      have hI : ∀ t' u', OKs cl s0 n I g0 q1 (s + L1.length + 0) (pe ++ Wb) t' (ems g s (L1.map rtN ++ List.replicate 0 (-33))) u' → OKs cl s0 n I g0 q1 (s + L1.length) ([] ++ (pe ++ Wb)) t' (ems g s (L1.map rtN)) u' := by
        intro t' u' hk
        rw [show L1.map rtN ++ List.replicate 0 (-33) = L1.map rtN from List.append_nil _] at hk
        exact hk
      have hE : ∀ {V' : Int32} {t' u' : Nat → Int32}, HD d cl s0 n c I J K h g0 Φ false q1 V' (s + L1.length) ([] ++ (pe ++ Wb)) t' (ems g s (L1.map rtN)) u' → HD d cl s0 n c I J K h g0 Φ false q1 V' (s + L1.length + 0) (pe ++ Wb) t' (ems g s (L1.map rtN ++ List.replicate 0 (-33))) u' := by
        intro V' t' u' hk
        rw [show L1.map rtN ++ List.replicate 0 (-33) = L1.map rtN from List.append_nil _]
        exact hk
      have hL : L1 ++ opN [] = L1 := List.append_nil _
      refine ⟨fun q' L' e2 k => hF.1 _ _ e (fun V' t' u' hk => hE ?_), fun q' e2 hfai => hF.1 _ _ e (fun V' t' u' hk => hE ?_)⟩
      · exact (L_Tl S X hcl h5 FL hf hpe hWb ho n q1 V' [] L1 t' u' (Or.inl rfl) (hI t' u' hk) (by omega)).1 q' L' (by rw [hL]; exact e2) k
      · exact (L_Tl S X hcl h5 FL hf hpe hWb ho n q1 V' [] L1 t' u' (Or.inl rfl) (hI t' u' hk) (by omega)).2 q' (by rw [hL]; exact e2) hfai
/-- an E's rest -/
theorem L_El (S : St K h) (X : TX I c n) (hcl : cl < 60) (h5 : s0 ≤ 500) {o m : Nat} {f : Nat → Nat × Option (List Nat)} (FL : FLm d cl s0 n c I J K h g0 Φ o f) (hm : 1 ≤ m) (hm2 : m ≤ 20) (hf : PG n m f) {Wb : List Nat} (hWb : stopB Wb) (ho : cntW Wb = o) {s1 : Nat} {g1 : Nat → Int32} :
    ∀ (j q : Nat) (V : Int32) (pt pe Y : List Nat) (t u : Nat → Int32), pt = [] ∨ pt = [38] → pe = [] ∨ pe = [124] → OKs cl s0 n I g0 q (s1 + Y.length) (pt ++ (pe ++ Wb)) t (ems g1 s1 (Y.map rtN)) u → n ≤ j + q → c q ≠ 38 →
    (∀ q' L', pEl c f n j q (Y ++ opN pt ++ opN pe) = (q', some L') → (∀ V' pt' pe' Y' t' u', (pt' = [] ∨ pt' = [38]) → (pe' = [] ∨ pe' = [124]) → OKs cl s0 n I g0 q' (s1 + Y'.length) (pt' ++ (pe' ++ Wb)) t' (ems g1 s1 (Y'.map rtN)) u' → L' = Y' ++ opN pt' ++ opN pe' → c q' ≠ 38 → c q' ≠ 124 → HD d cl s0 n c I J K h g0 Φ false q' V' (s1 + Y'.length) (pt' ++ (pe' ++ Wb)) t' (ems g1 s1 (Y'.map rtN)) u') → HD d cl s0 n c I J K h g0 Φ false q V (s1 + Y.length) (pt ++ (pe ++ Wb)) t (ems g1 s1 (Y.map rtN)) u) ∧
    (∀ q', pEl c f n j q (Y ++ opN pt ++ opN pe) = (q', none) → FAI d cl s0 n c I J K h g0 Φ q' → HD d cl s0 n c I J K h g0 Φ false q V (s1 + Y.length) (pt ++ (pe ++ Wb)) t (ems g1 s1 (Y.map rtN)) u) := by
  intro j
  induction j with
  | zero =>
    intro q V pt pe Y t u hpt hpe hok hj h38
    have hq : c q ≠ 124 := by
      have := (X.2.2.1 q).1 (by omega)
      omega
    exact ⟨fun q' L' e k => by cases e; exact k V pt pe Y t u hpt hpe hok rfl h38 hq, fun q' e _ => by cases e⟩
  | succ j ih =>
    intro q V pt pe Y t u hpt hpe hok hj h38
    by_cases hq : c q = 124
    · obtain ⟨k1, k2, k3, k4, k5, k6, k7⟩ := hok
      have hn := X.2.1
      have hqn := X.2.2.1.lt (p := q) (by omega)
      have hpp := pp_sub hpt hpe
      have hlen : (pt ++ (pe ++ Wb)).length = Wb.length + (pt ++ pe).length := by rw [List.length_append, List.length_append, List.length_append]; omega
      have hW0 : hdN_ (fun a => a ≠ 38 ∧ (a = 124 → 124 = 38)) Wb := fun a R e => ⟨(hWb a R e).2.1, fun z => absurd z (hWb a R e).2.2⟩
      have hcnt : cntW (pt ++ (pe ++ Wb)) = cntW (124 :: Wb) := by
        rw [← List.append_assoc, cnt_app, cnt_pp hpp]
        show 0 + cntW Wb = (if 124 = 33 ∨ 124 = 40 then 1 else 0) + cntW Wb
        rw [if_neg (by decide)]
      have hop : opN (pt ++ pe) = opN pt ++ opN pe := List.map_append
      have hg2 : ems (ems g1 s1 (Y.map rtN)) (s1 + Y.length) (ngL (pt ++ pe)) = ems g1 s1 ((Y ++ opN pt ++ opN pe).map rtN) := by rw [ng_op hpp, ems2 _ _ _ _ _ rfl, hop, List.append_assoc]
      have hs2 : s1 + Y.length + (pt ++ pe).length = s1 + (Y ++ opN pt ++ opN pe).length := by rw [List.length_append, List.length_append, List.length_append, opN, opN, List.length_map, List.length_map]; omega
      have hst : stk u 0 ((pt ++ pe) ++ Wb) := by rw [List.append_assoc]; exact k4
      have hsg : sgOK Wb := sgOK_app (A := pe) (sgOK_app k5)
      have step : HD d cl s0 n c I J K h g0 Φ true (q + 1) V (s1 + (Y ++ opN pt ++ opN pe).length) ([124] ++ Wb) t (ems g1 s1 ((Y ++ opN pt ++ opN pe).map rtN)) (upc u Wb.length (nI 124)) → HD d cl s0 n c I J K h g0 Φ false q V (s1 + Y.length) (pt ++ (pe ++ Wb)) t (ems g1 s1 (Y.map rtN)) u := by
        intro k
        unfold HD
        rw [hlen, hcnt]
        refine E_op S X (x := 124) hq (Or.inr rfl) (by omega) (by omega) (fun a ha => (hpp a ha).elim Or.inl (fun z => Or.inr ⟨z, by decide⟩)) hst hsg hW0 ?_
        rw [hg2, hs2]
        exact k
      have hok2 : OKs cl s0 n I g0 (q + 1) (s1 + (Y ++ opN pt ++ opN pe).length) ([124] ++ Wb) t (ems g1 s1 ((Y ++ opN pt ++ opN pe).map rtN)) (upc u Wb.length (nI 124)) := by
        refine ⟨by omega, ?_, by omega, stk_push (stk_app.mp hst).2, ?_, fun i hi => ?_, k7⟩
        · show s1 + (Y ++ opN pt ++ opN pe).length + (Wb.length + 1) ≤ s0 + (q + 1); omega
        · intro a ha
          rcases List.mem_cons.mp ha with e | e
          · exact Or.inr (Or.inr (Or.inr e))
          · exact hsg a e
        · rw [List.append_assoc, ← ems2 _ _ _ _ _ rfl, ems_lo _ _ _ _ (by omega)]; exact k6 i hi
      have hT := L_T S X hcl h5 FL hf (pe := [124]) (Or.inr rfl) hWb ho (V := V) hok2
      cases e : pT c f n (q + 1) with
      | mk q1 r =>
        rw [show pEl c f n (j + 1) q (Y ++ opN pt ++ opN pe) = bnd (pT c f n (q + 1)) (fun q1 L1 => pEl c f n j q1 (Y ++ opN pt ++ opN pe ++ L1 ++ [6002])) from if_pos hq, e]
        cases r with
        | none => exact ⟨fun q' L' e2 => (by cases e2), fun q' e2 hfai => by cases e2; exact step (hT.2 _ e hfai)⟩
        | some L1 =>
          obtain ⟨p1, p2, p3, p4⟩ := ((pT_pg X.2.2.1 hm hm2 hf) (q + 1)).1 q1 L1 e
          have hs3 : ∀ Y' : List Nat, s1 + (Y ++ opN pt ++ opN pe).length + Y'.length = s1 + (Y ++ opN pt ++ opN pe ++ Y').length := fun Y' => by rw [List.length_append (as := Y ++ opN pt ++ opN pe)]; omega
          have hL3 : ∀ (pt' Y' : List Nat), L1 = Y' ++ opN pt' → Y ++ opN pt ++ opN pe ++ L1 ++ [6002] = (Y ++ opN pt ++ opN pe ++ Y') ++ opN pt' ++ opN [124] := fun pt' Y' e => by rw [e]; simp [opN]
          refine ⟨fun q' L' e2 k => step (hT.1 _ _ e (fun V' pt' Y' t' u' h1 h2 h3 h4 => ?_)), fun q' e2 hfai => step (hT.1 _ _ e (fun V' pt' Y' t' u' h1 h2 h3 h4 => ?_))⟩
          · rw [ems2 _ _ _ _ _ rfl, hs3] at h2 ⊢
            exact (ih q1 V' pt' [124] (Y ++ opN pt ++ opN pe ++ Y') t' u' h1 (Or.inr rfl) h2 (by omega) h4).1 q' L' (by rw [← hL3 pt' Y' h3]; exact e2) k
          · rw [ems2 _ _ _ _ _ rfl, hs3] at h2 ⊢
            exact (ih q1 V' pt' [124] (Y ++ opN pt ++ opN pe ++ Y') t' u' h1 (Or.inr rfl) h2 (by omega) h4).2 q' (by rw [← hL3 pt' Y' h3]; exact e2) hfai
    · rw [show pEl c f n (j + 1) q (Y ++ opN pt ++ opN pe) = (q, some (Y ++ opN pt ++ opN pe)) from if_neg hq]
      exact ⟨fun q' L' e k => by cases e; exact k V pt pe Y t u hpt hpe hok rfl h38 hq, fun q' e _ => by cases e⟩
/-- an E -/
theorem L_E (S : St K h) (X : TX I c n) (hcl : cl < 60) (h5 : s0 ≤ 500) {o m : Nat} {f : Nat → Nat × Option (List Nat)} (FL : FLm d cl s0 n c I J K h g0 Φ o f) (hm : 1 ≤ m) (hm2 : m ≤ 20) (hf : PG n m f) {Wb : List Nat} (hWb : stopB Wb) (ho : cntW Wb = o) {p s : Nat} {V : Int32} {t g u : Nat → Int32} (hok : OKs cl s0 n I g0 p s Wb t g u) :
    (∀ q' L', pE c f n p = (q', some L') → (∀ V' pt' pe' Y' t' u', (pt' = [] ∨ pt' = [38]) → (pe' = [] ∨ pe' = [124]) → OKs cl s0 n I g0 q' (s + Y'.length) (pt' ++ (pe' ++ Wb)) t' (ems g s (Y'.map rtN)) u' → L' = Y' ++ opN pt' ++ opN pe' → c q' ≠ 38 → c q' ≠ 124 → HD d cl s0 n c I J K h g0 Φ false q' V' (s + Y'.length) (pt' ++ (pe' ++ Wb)) t' (ems g s (Y'.map rtN)) u') → HD d cl s0 n c I J K h g0 Φ true p V s Wb t g u) ∧
    (∀ q', pE c f n p = (q', none) → FAI d cl s0 n c I J K h g0 Φ q' → HD d cl s0 n c I J K h g0 Φ true p V s Wb t g u) := by
  have hT := L_T S X hcl h5 FL hf (pe := []) (Or.inl rfl) hWb ho (V := V) hok
  cases e : pT c f n p with
  | mk q1 r =>
    rw [show pE c f n p = bnd (pT c f n p) (fun q L => pEl c f n n q L) from rfl, e]
    cases r with
    | none => exact ⟨fun q' L' e2 => (by cases e2), fun q' e2 hfai => by cases e2; exact hT.2 _ e hfai⟩
    | some L1 =>
      obtain ⟨p1, p2, p3, p4⟩ := ((pT_pg X.2.2.1 hm hm2 hf) p).1 q1 L1 e
      refine ⟨fun q' L' e2 k => hT.1 _ _ e (fun V' pt' Y' t' u' h1 h2 h3 h4 => ?_), fun q' e2 hfai => hT.1 _ _ e (fun V' pt' Y' t' u' h1 h2 h3 h4 => ?_)⟩
      · exact (L_El S X hcl h5 FL hm hm2 hf hWb ho n q1 V' pt' [] Y' t' u' h1 (Or.inl rfl) h2 (by omega) h4).1 q' L' (by rw [show Y' ++ opN pt' ++ opN [] = L1 by rw [h3]; exact List.append_nil _]; exact e2) k
      · exact (L_El S X hcl h5 FL hm hm2 hf hWb ho n q1 V' pt' [] Y' t' u' h1 (Or.inl rfl) h2 (by omega) h4).2 q' (by rw [show Y' ++ opN pt' ++ opN [] = L1 by rw [h3]; exact List.append_nil _]; exact e2) hfai
/-- a test -/
theorem L_test (S : St K h) (X : TX I c n) (h5 : s0 ≤ 500) {p s k : Nat} {V : Int32} {W0 : List Nat} {t g u : Nat → Int32} (hok : OKs cl s0 n I g0 p s (List.replicate k 33 ++ W0) t g u) (h33 : hdN_ (fun a => a ≠ 33) W0) (hx : ¬ c p = 33 ∧ ¬ c p = 40) :
    (∀ q L, pTest c p = (q, some L) → (∀ V' t' u', OKs cl s0 n I g0 q (s + L.length + k) W0 t' (ems g s (L.map rtN ++ List.replicate k (-33))) u' → HD d cl s0 n c I J K h g0 Φ false q V' (s + L.length + k) W0 t' (ems g s (L.map rtN ++ List.replicate k (-33))) u') → HD d cl s0 n c I J K h g0 Φ true p V s (List.replicate k 33 ++ W0) t g u) ∧
    (∀ q, pTest c p = (q, none) → FAI d cl s0 n c I J K h g0 Φ q → HD d cl s0 n c I J K h g0 Φ true p V s (List.replicate k 33 ++ W0) t g u) := by
  obtain ⟨k1, k2, k3, k4, k5, k6, k7⟩ := hok
  have hn := X.2.1
  have hlen : (List.replicate k 33 ++ W0).length = W0.length + k := by rw [List.length_append, List.length_replicate]; omega
  have hcnt : cntW (List.replicate k 33 ++ W0) = cntW W0 + k := by rw [cnt_app, cnt_rep]; omega
  cases e1 : ltN (c p) with
  | none =>
    have E : pTest c p = (p, none) := by unfold pTest; rw [e1]
    rw [E]
    exact ⟨fun q L e => (by cases e), fun q e hfai => by cases e; exact E_testL S X (by omega) hx e1 (hfai _ _ _ _ _ _ _ k6 k7)⟩
  | some f =>
    have hf5 := (ltN_some e1).1
    have hpn := X.2.2.1.lt (p := p) (by have := (ltN_some e1).2.2; omega)
    by_cases hS : 60 ≤ c (p + 1) ∧ c (p + 1) ≤ 62
    · have E : pTest c p = bnd (pNum c (p + 2)) (fun q v => (q, some [1000 * f + 100 * (c (p + 1) - 60) + v])) := by unfold pTest; rw [e1]; exact if_pos hS
      rw [E]
      cases e2 : pNum c (p + 2) with
      | mk q1 r =>
        cases r with
        | none =>
          obtain ⟨e3, e4⟩ := pNum_none e2
          subst e3
          exact ⟨fun q L e => (by cases e), fun q e hfai => by cases e; exact E_testN S X (by omega) hx e1 hS e4 (hfai _ _ _ _ _ _ _ k6 k7)⟩
        | some v =>
          obtain ⟨q2, q3, q4, q5⟩ := pNum_some X.2.2.1 e2
          refine ⟨fun q L e kk => ?_, fun q e => (by cases e)⟩
          cases e
          unfold HD
          rw [hlen, hcnt]
          have hrt : [1000 * f + 100 * (c (p + 1) - 60) + v].map rtN ++ List.replicate k (-33) = nI (1000 * f + 100 * (c (p + 1) - 60) + v) :: List.replicate k (-33) := by
            show rtN _ :: _ = _
            unfold rtN
            rw [if_neg (by omega), if_neg (by omega), if_neg (by omega)]
            rfl
          have k4' := (stk_app.mp k4).2
          refine E_testY S X (by omega) hx e1 hS e2 (by omega) (by omega) k4 (sgOK_app k5) h33 ?_
          have := kk (nI v) t u ⟨by omega, by show s + 1 + k + W0.length ≤ s0 + q1; omega, q3, k4', sgOK_app k5, fun i hi => by rw [ems_lo _ _ _ _ (by omega)]; exact k6 i hi, k7⟩
          rw [hrt] at this
          exact this
    · have E : pTest c p = (p + 1, none) := by unfold pTest; rw [e1]; exact if_neg hS
      rw [E]
      exact ⟨fun q L e => (by cases e), fun q e hfai => by cases e; exact E_testS S X (by omega) hx e1 hS (hfai _ _ _ _ _ _ _ k6 k7)⟩
theorem pTest_no {p : Nat} (hx : c p = 33 ∨ c p = 40) : pTest c p = (p, none) := by
  unfold pTest
  rcases hx with e | e <;> rw [e] <;> rfl
/-- an F -/
theorem L_F (S : St K h) (X : TX I c n) (hcl : cl < 60) (h5 : s0 ≤ 500) : ∀ r, r ≤ 4 → FLm d cl s0 n c I J K h g0 Φ (4 - r) (pF c n r) := by
  intro r
  induction r with
  | zero =>
    intro _ p V s k W0 t g u hok ho h33
    by_cases hx : c p = 33 ∨ c p = 40
    · have E : pF c n 0 p = (p, none) := pTest_no hx
      rw [E]
      refine ⟨fun q L e => (by cases e), fun q e hfai => ?_⟩
      cases e
      have hpn := X.2.2.1.lt (p := p) (by omega)
      exact E_full S X (x := c p) rfl hx ho (hfai _ _ _ _ _ _ _ hok.2.2.2.2.2.1 hok.2.2.2.2.2.2)
    · exact L_test S X h5 hok h33 ⟨fun z => hx (Or.inl z), fun z => hx (Or.inr z)⟩
  | succ r ih =>
    intro hr p V s k W0 t g u hok ho h33
    have hF := ih (by omega)
    have hfg := pF_pg X.2.2.1 r (by omega)
    have hn := X.2.1
    by_cases hx : c p = 33 ∨ c p = 40
    · obtain ⟨k1, k2, k3, k4, k5, k6, k7⟩ := hok
      have hlen : (List.replicate k 33 ++ W0).length = W0.length + k := by rw [List.length_append, List.length_replicate]; omega
      have hpn := X.2.2.1.lt (p := p) (by omega)
      have push : ∀ {x : Nat}, c p = x → (x = 33 ∨ x = 40) → HD d cl s0 n c I J K h g0 Φ true (p + 1) V s (x :: (List.replicate k 33 ++ W0)) t g (upc u (List.replicate k 33 ++ W0).length (nI x)) → HD d cl s0 n c I J K h g0 Φ true p V s (List.replicate k 33 ++ W0) t g u := by
        intro x hx1 hx2 kk
        exact E_push S X hx1 hx2 (by omega) (by omega) (by omega) kk
      have hok2 : ∀ {x : Nat}, (x = 33 ∨ x = 40) → OKs cl s0 n I g0 (p + 1) s (x :: (List.replicate k 33 ++ W0)) t g (upc u (List.replicate k 33 ++ W0).length (nI x)) := by
        intro x hx2
        refine ⟨k1, ?_, by omega, stk_push k4, ?_, k6, k7⟩
        · show s + ((List.replicate k 33 ++ W0).length + 1) ≤ s0 + (p + 1); omega
        · intro a ha
          rcases List.mem_cons.mp ha with e | e
          · subst e; exact hx2.elim Or.inl (fun z => Or.inr (Or.inl z))
          · exact k5 a e
      by_cases h1 : c p = 33
      · have E : pF c n (r + 1) p = bnd (pF c n r (p + 1)) (fun q L => (q, some (L ++ [6000]))) := if_pos h1
        rw [E]
        have hcn : cntW (List.replicate (k + 1) 33 ++ W0) = 4 - r := by
          show (if 33 = 33 ∨ 33 = 40 then 1 else 0) + cntW (List.replicate k 33 ++ W0) = 4 - r
          rw [if_pos (Or.inl rfl), ho]; omega
        have hFF := hF (p + 1) V s (k + 1) W0 t g _ (hok2 (x := 33) (Or.inl rfl)) hcn h33
        cases e : pF c n r (p + 1) with
        | mk q1 o =>
          cases o with
          | none => exact ⟨fun q L e2 => (by cases e2), fun q e2 hfai => by cases e2; exact push h1 (Or.inl rfl) (hFF.2 _ e hfai)⟩
          | some L1 =>
            refine ⟨fun q L e2 kk => ?_, fun q e2 => (by cases e2)⟩
            cases e2
            refine push h1 (Or.inl rfl) (hFF.1 _ _ e (fun V' t' u' hk => ?_))
            have hl : s + (L1 ++ [6000]).length + k = s + L1.length + (k + 1) := by rw [List.length_append]; show s + (L1.length + 1) + k = _; omega
            have hm : (L1 ++ [6000]).map rtN ++ List.replicate k (-33) = L1.map rtN ++ List.replicate (k + 1) (-33) := by
              rw [List.map_append, List.append_assoc]; rfl
            have kk2 := kk V' t' u'
            rw [hl, hm] at kk2
            exact kk2 hk
      · have h2 : c p = 40 := hx.elim (fun z => absurd z h1) id
        have E : pF c n (r + 1) p = bnd (pE c (pF c n r) n (p + 1)) (fun q L => if c q = 41 then (q + 1, some L) else (q, none)) := (if_neg h1).trans (if_pos h2)
        rw [E]
        have hcn : cntW (40 :: (List.replicate k 33 ++ W0)) = 4 - r := by
          show (if 40 = 33 ∨ 40 = 40 then 1 else 0) + cntW (List.replicate k 33 ++ W0) = 4 - r
          rw [if_pos (Or.inr rfl), ho]; omega
        have hE := L_E S X hcl h5 hF (by omega) (by omega) hfg (Wb := 40 :: (List.replicate k 33 ++ W0)) (fun a R e => by cases e; exact ⟨by decide, by decide, by decide⟩) hcn (V := V) (hok2 (x := 40) (Or.inr rfl))
        cases e : pE c (pF c n r) n (p + 1) with
        | mk q1 o =>
          cases o with
          | none => exact ⟨fun q L e2 => (by cases e2), fun q e2 hfai => by cases e2; exact push h2 (Or.inr rfl) (hE.2 _ e hfai)⟩
          | some L1 =>
            have hb1 : bnd (q1, some L1) (fun q L => if c q = 41 then (q + 1, some L) else (q, none)) = if c q1 = 41 then (q1 + 1, some L1) else (q1, none) := rfl
            rw [hb1]
            obtain ⟨p1, p2, p3, p4⟩ := ((pE_pg X.2.2.1 (by omega) (by omega) hfg) (p + 1)).1 q1 L1 e
            have hwl : (40 :: (List.replicate k 33 ++ W0)).length = W0.length + k + 1 := by show _ + 1 = _; omega
            by_cases h41 : c q1 = 41
            · rw [if_pos h41]
              have hqn := X.2.2.1.lt (p := q1) (by omega)
              refine ⟨fun q L e2 kk => ?_, fun q e2 => (by cases e2)⟩
              cases e2
              refine push h2 (Or.inr rfl) (hE.1 _ _ e (fun V' pt' pe' Y' t' u' w1 w2 w3 w4 w5 w6 => ?_))
              obtain ⟨m1, m2, m3, m4, m5, m6, m7⟩ := w3
              have hpp := pp_sub w1 w2
              have hL1 : L1.length = Y'.length + (pt' ++ pe').length := by rw [w4, List.length_append, List.length_append, List.length_append, opN, opN, List.length_map, List.length_map]; omega
              have hlw : (pt' ++ (pe' ++ (40 :: (List.replicate k 33 ++ W0)))).length = W0.length + k + 1 + (pt' ++ pe').length := by rw [← List.append_assoc, List.length_append, hwl]; omega
              have hcw : cntW (pt' ++ (pe' ++ (40 :: (List.replicate k 33 ++ W0)))) = cntW W0 + k + 1 := by
                rw [← List.append_assoc, cnt_app, cnt_pp hpp]
                show 0 + ((if 40 = 33 ∨ 40 = 40 then 1 else 0) + cntW (List.replicate k 33 ++ W0)) = _
                rw [if_pos (Or.inr rfl), cnt_app, cnt_rep]; omega
              unfold HD
              rw [hlw, hcw]
              have hst : stk u' 0 ((pt' ++ pe') ++ (40 :: (List.replicate k 33 ++ W0))) := by rw [List.append_assoc]; exact m4
              have hsgW : sgOK W0 := sgOK_app k5
              refine E_endP S X hcl h41 (by omega) (by omega) (fun a ha => (hpp a ha).elim Or.inl (fun z => Or.inr ⟨z, by decide⟩)) hst hsgW h33 ?_
              have hgg : ems (ems (ems g s (Y'.map rtN)) (s + Y'.length) (ngL (pt' ++ pe'))) (s + Y'.length + (pt' ++ pe').length) (List.replicate k (-33)) = ems g s (L1.map rtN ++ List.replicate k (-33)) := by
                rw [ng_op hpp, ems2 _ _ _ _ _ rfl, show Y' ++ opN (pt' ++ pe') = L1 by rw [w4, List.append_assoc]; congr 1; exact List.map_append, ems_app, List.length_map, hL1, Nat.add_assoc]
              rw [hgg, show s + Y'.length + (pt' ++ pe').length + k = s + L1.length + k by omega]
              have hst0 := (stk_app.mp ((stk_app.mp hst).2).2).2
              refine kk V' _ _ ⟨by omega, by omega, by omega, hst0, hsgW, fun i hi => ?_, fun z hz => ?_⟩
              · rw [ems_lo _ _ _ _ (by omega)]; exact k6 i hi
              · rw [upc_ne _ _ hz]; exact m7 z hz
            · rw [if_neg h41]
              refine ⟨fun q L e2 => (by cases e2), fun q e2 hfai => ?_⟩
              cases e2
              refine push h2 (Or.inr rfl) (hE.1 _ _ e (fun V' pt' pe' Y' t' u' w1 w2 w3 w4 w5 w6 => ?_))
              obtain ⟨m1, m2, m3, m4, m5, m6, m7⟩ := w3
              have hpp := pp_sub w1 w2
              have hL1 : L1.length = Y'.length + (pt' ++ pe').length := by rw [w4, List.length_append, List.length_append, List.length_append, opN, opN, List.length_map, List.length_map]; omega
              have hlw : (pt' ++ (pe' ++ (40 :: (List.replicate k 33 ++ W0)))).length = (40 :: (List.replicate k 33 ++ W0)).length + (pt' ++ pe').length := by rw [← List.append_assoc, List.length_append]; omega
              unfold HD
              rw [hlw]
              have hst : stk u' 0 ((pt' ++ pe') ++ (40 :: (List.replicate k 33 ++ W0))) := by rw [List.append_assoc]; exact m4
              refine E_endF S X (by omega) hcl ⟨w5, w6⟩ (by omega) (by omega) (fun a ha => (hpp a ha).elim Or.inl (fun z => Or.inr ⟨z, by decide⟩)) hst (sgOK_app (A := pe') (sgOK_app m5)) (fun a R e => by cases e; exact ⟨by decide, fun z => absurd z (by decide)⟩) (by show _ + 1 ≠ 0; omega) h41 (hfai _ _ _ _ _ _ _ (fun i hi => ?_) (fun z hz => ?_))
              · rw [ems_lo _ _ _ _ (by omega)]; exact m6 i hi
              · rw [upc_ne _ _ hz]; exact m7 z hz
    · have E : pF c n (r + 1) p = pTest c p := (if_neg (fun z => hx (Or.inl z))).trans (if_neg (fun z => hx (Or.inr z)))
      rw [E]
      exact L_test S X h5 hok h33 ⟨fun z => hx (Or.inl z), fun z => hx (Or.inr z)⟩
end PP
