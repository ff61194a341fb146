/-! the class reads: F and E -/
/-- what a reader of codes leaves -/
def PQ (I : Nat → Nat → Int32) (J : Nat → Nat → Int64) (K : Nat → Nat → Option Nat) (h : List xSh) (b : Nat) (r : Nat × Option (List Nat)) (m : Nat) (cd : Nat → Int32) (t : xMem) : Prop := ∃ m2 cd2, t = (PS I b m2 r.1 r.2.isSome cd2, J, K, h) ∧ PC r.2 m cd m2 cd2
theorem PQ.mk {I : Nat → Nat → Int32} {J : Nat → Nat → Int64} {K : Nat → Nat → Option Nat} {h : List xSh} {b q m m2 : Nat} {s : Bool} {r : Nat × Option (List Nat)} {cd cd2 : Nat → Int32} (h1 : r.1 = q) (h2 : r.2.isSome = s) (hP : PC r.2 m cd m2 cd2) : PQ I J K h b r m cd (PS I b m2 q s cd2, J, K, h) := ⟨m2, cd2, by rw [h1, h2], hP⟩
theorem PC.lt {o : Option (List Nat)} {m m2 p q n : Nat} {cd cd2 : Nat → Int32} (h : PC o m cd m2 cd2) (hg : ∀ L, o = some L → p < q ∧ q ≤ n ∧ L.length ≤ q - p) (hmp : m + 1 ≤ p) (hn : n ≤ 100) : o.isSome = true → m2 < 100 := by
  intro hz
  cases o with
  | none => cases hz
  | some L =>
    obtain ⟨g1, g2, g3⟩ := hg L rfl
    have := (h.2.2.2 L rfl).1
    omega
theorem ex_s {c : Nat → Nat} {ch p : Nat} {s : Bool} (h : (ex c ch p s).2 = true) : s = true := by
  unfold ex at h
  by_cases e : (s && decide (c p = ch)) = true
  · exact (nx_t e).1
  · rw [if_neg e] at h; cases h
theorem par_s {c : Nat → Nat} {ch p : Nat} {o : Option (List Nat)} : (if (ex c ch p o.isSome).2 = true then o else none).isSome = (ex c ch p o.isSome).2 := by
  cases e : (ex c ch p o.isSome).2 with
  | false => rfl
  | true => rw [if_pos rfl]; exact ex_s e
theorem PC.ite {o : Option (List Nat)} {m m2 : Nat} {cd cd2 : Nat → Int32} {x : Bool} (h : PC o m cd m2 cd2) : PC (if x = true then o else none) m cd m2 cd2 := by
  cases x with
  | false => exact h.no
  | true => exact h
theorem PC.tst {s : Bool} {m k : Nat} {cd : Nat → Int32} {v : Int32} (hm : m ≤ 100) (hv : v = ctN k) (hlt : s = true → m < 100) : PC (if s = true then some [k] else none) m cd (if m < 100 then m + 1 else m) (if m < 100 then upc cd m v else cd) := by
  have h := ((PC.refl (cd := cd) hm).ite (x := s)).ac hv (fun z => hlt (by cases s; cases z; rfl))
  refine h.to ?_
  cases s <;> rfl
theorem tl_st {c : Nat → Nat} {f : Nat → Nat × Option (List Nat)} {n p : Nat} {s : Bool} : ((rd s f p).2.isSome = false → rd s (pT c f n) p = ((rd s f p).1, none)) ∧ ((rd s f p).2.isSome = true → s = true ∧ rd s (pT c f n) p = pTl c f n (rd s f p).1 ((rd s f p).2.getD [])) := by
  cases s with
  | false => exact ⟨fun _ => rfl, fun z => by cases z⟩
  | true =>
    rw [rd_t rfl, rd_t rfl, show pT c f n p = bnd (f p) (fun q L => pTl c f n q L) from rfl]
    cases e : f p with
    | mk q o =>
      cases o with
      | none => exact ⟨fun _ => rfl, fun z => by cases z⟩
      | some L => exact ⟨fun z => (by cases z), fun _ => ⟨rfl, rfl⟩⟩
theorem opt_gd {o : Option (List Nat)} : (if o.isSome = true then some (o.getD []) else none) = o := by cases o <;> rfl
set_option maxRecDepth 100000 in
set_option maxHeartbeats 4000000 in
theorem C_part0 {d : Nat} {I : Nat → Nat → Int32} {J : Nat → Nat → Int64} {K : Nat → Nat → Option Nat} {h : List xSh} (S : St K h) {b n : Nat} {c : Nat → Nat} (P : PAR I K h b c n) {m p : Nat} {s : Bool} {cd : Nat → Int32} (hm : m ≤ 100) (hl : s = true → m ≤ p ∧ p ≤ n) : EvP (d + 6) 42 0 [(0, .ref (b)), (1, .int (nI (4)))] [] (PS I b m p s cd, J, K, h) (QV (PQ I J K h b (rd s (pF c n 0) p) m cd)) := by
  have P0 := P
  obtain ⟨⟨hTS, hb29, hK8⟩, h9, hn100, hCT, htx⟩ := P
  refine p_iload_n k42_0 rfl ?_
  refine p_iconst (v := nI 4) k42_1 (by decide) ?_
  refine p_icmp_geN (tgt := 35) k42_2 (by decide) (by omega) (by omega) (fun _ => ?_) (fun c => False.elim (by omega))
  refine p_iload_n k42_35 rfl ?_
  refine p_iconst (v := nI 4) k42_36 (by decide) ?_
  refine p_icmp_geN (tgt := 71) k42_37 (by decide) (by omega) (by omega) (fun _ => ?_) (fun c => False.elim (by omega))
  refine p_aload_n k42_71 rfl ?_
  refine p_ldcs (k := 0) k42_72 (by decide) ?_
  refine p_cV1i k42_74 hTS.1.1 c_8_90_8 rfl (Nat.le_of_ble_eq_true rfl) (C_oneOf S P0 (fun e => (hl e).2) (k := 0) (by decide)) (fun x1 m1 hq => ?_)
  obtain ⟨j1, p1, s1, rfl, rfl, h1⟩ := hq
  refine p_istore_n (ls' := [(0, _), (1, _), (2, _)]) k42_77 rfl ?_
  refine p_aload_n k42_78 rfl ?_
  refine p_ldcs (k := 1) k42_79 (by decide) ?_
  refine p_cV1i k42_81 hTS.1.1 c_8_90_8 rfl (Nat.le_of_ble_eq_true rfl) (C_oneOf S P0 (OFQ.le (by decide) hCT h1) (k := 1) (by decide)) (fun x1 m1 hq => ?_)
  obtain ⟨j2, p2, s2, rfl, rfl, h2⟩ := hq
  refine p_istore_n (ls' := [(0, _), (1, _), (2, _), (3, _)]) k42_84 rfl ?_
  refine p_aload_n k42_85 rfl ?_
  refine p_iload_n k42_86 rfl ?_
  refine p_iload_n k42_87 rfl ?_
  refine p_aload_n k42_88 rfl ?_
  refine p_cV0i k42_89 hTS.1.1 c_8_100_8 (Nat.le_of_ble_eq_true rfl) (C_parseNumber S P0 (OFQ.le (by decide) hCT h2)) (fun x1 m1 hq => ?_)
  obtain ⟨v, p3, s3, rfl, hv, rfl, h3⟩ := hq
  refine p_cS3i k42_92 c_8_118 rfl rfl rfl (Nat.le_of_ble_eq_true rfl) (C_codeOf S (f := j1) (g := j2) (v := v)) (fun x1 m1 hq => ?_)
  obtain ⟨rfl, rfl⟩ := hq
  refine p_cV1v k42_95 hTS.1.1 c_8_113_8 rfl (Nat.le_of_ble_eq_true rfl) (C_addCode S P0 hm (nI ((j1 * 3 + j2) * 100 + v))) (fun m1 hq => ?_)
  obtain rfl := hq
  refine p_return k42_98 rt_42 ?_
  rw [show rd s (pF c n 0) p = rd s (pTest c) p from rfl]
  have e9 := tst_eq h1 h2 h3
  rw [e9]
  refine PQ.mk rfl (by cases s3 <;> rfl) (PC.tst hm (ctN_t h1.1 h2.1 hv) (fun e => ?_))
  have hg := (rdg (pTest_pg hCT) (s := s) (p := p) (fun e => (hl e).2)).1 [1000 * j1 + 100 * j2 + v] (by rw [e9, e]; rfl)
  have := hl hg.1
  omega

set_option maxRecDepth 100000 in
set_option maxHeartbeats 4000000 in
theorem C_eith0 {d : Nat} {I : Nat → Nat → Int32} {J : Nat → Nat → Int64} {K : Nat → Nat → Option Nat} {h : List xSh} (S : St K h) {b n : Nat} {c : Nat → Nat} (P : PAR I K h b c n) {m p : Nat} {s : Bool} {cd : Nat → Int32} (hm : m ≤ 100) (hl : s = true → 1 ≤ p ∧ m ≤ p ∧ p ≤ n) : EvP (d + 7) 41 0 [(0, .ref (b)), (1, .int (nI (4)))] [] (PS I b m p s cd, J, K, h) (QV (PQ I J K h b (rd s (pE c (pF c n 0) n) p) m cd)) := by
  have P0 := P
  obtain ⟨⟨hTS, hb29, hK8⟩, h9, hn100, hCT, htx⟩ := P
  refine p_iconst (v := nI 0) k41_0 (by decide) ?_
  refine p_istore_n (ls' := [(0, _), (1, _), (2, _)]) k41_1 rfl ?_
  obtain ⟨r0, hr0⟩ : ∃ X, X = rd s (pE c (pF c n 0) n) p := ⟨_, rfl⟩
  rw [← hr0]
  have L : ∀ (j : Nat) (i mm pp : Nat) (ss : Bool) (dd : Nat → Int32) (La : List Nat), i + j = n → PC (if ss = true then some La else none) m cd mm dd → (ss = false → r0 = (pp, none)) → (ss = true → i + 1 ≤ pp ∧ pp ≤ n ∧ r0 = cnt9 c (pF c n 0) n i pp La ∧ (i = 0 → La = [] ∧ mm ≤ pp) ∧ (i ≠ 0 → mm + 1 ≤ pp)) → (i = 0 → La = []) → EvP (d + 7) 41 2 [(0, .ref (b)), (1, .int (nI (4))), (2, .int (nI (i)))] [] (PS I b mm pp ss dd, J, K, h) (QV (PQ I J K h b r0 m cd)) := by
    intro j
    induction j with
    | zero =>
      intro i mm pp ss dd La hk
      intro hE1 hE2 hE3 hLa
      refine p_iload_n k41_2 rfl ?_
      refine p_aload_n k41_3 rfl ?_
      refine p_getIv k41_4 hTS.1.1 f_8_44_8 ((PS_fo (by decide)).trans h9) ?_
      refine p_icmp_geN (tgt := 89) k41_7 (by decide) (by omega) (by omega) (fun _ => ?_) (fun c => False.elim (by omega))
      refine p_return k41_89 rt_41 ?_
      cases hss : ss with
      | true => exact absurd (hE3 hss) (fun z => absurd z.1 (by have := z.2.1; omega))
      | false =>
        rw [hE2 hss]
        exact PQ.mk rfl rfl hE1.no
    | succ j ih =>
      intro i mm pp ss dd La hk
      intro hE1 hE2 hE3 hLa
      refine p_iload_n k41_2 rfl ?_
      refine p_aload_n k41_3 rfl ?_
      refine p_getIv k41_4 hTS.1.1 f_8_44_8 ((PS_fo (by decide)).trans h9) ?_
      refine p_icmp_geN (tgt := 89) k41_7 (by decide) (by omega) (by omega) (fun c => False.elim (by omega)) (fun _ => ?_)
      refine p_aload_n k41_10 rfl ?_
      refine p_iload_n k41_11 rfl ?_
      refine p_cV1v k41_12 hTS.1.1 c_8_106_8 rfl (Nat.le_of_ble_eq_true rfl) (C_part0 S P0 (m := mm) (p := pp) (s := ss) (cd := dd) hE1.1 (fun e => ⟨by have h := hE3 e; by_cases e0 : i = 0; exact (h.2.2.2.1 e0).2; have := h.2.2.2.2 e0; omega, (hE3 e).2.1⟩)) (fun m1 hq => ?_)
      obtain ⟨m1, cd1, rfl, hp1⟩ := hq
      have hg1 := rdg (pF_pg hCT 0 (by decide)) (s := ss) (p := pp) (fun e => (hE3 e).2.1)
      refine p_iconst (v := nI 0) k41_15 (by decide) ?_
      refine p_istore_n (ls' := [(0, _), (1, _), (2, _), (3, _)]) k41_16 rfl ?_
      have ih0 := ih
      obtain ⟨rT, hrT⟩ : ∃ X, X = rd ss (pT c (pF c n 0) n) pp := ⟨_, rfl⟩
      have hTg := rdg (pT_pg hCT (by decide) (by decide) (pF_pg hCT 0 (by decide))) (s := ss) (p := pp) (fun e => (hE3 e).2.1)
      rw [← hrT] at hTg
      have hTn : rT.2.isSome = true → rT.1 ≤ n := fun e => by
        cases e2 : rT.2 with
        | none => rw [e2] at e; cases e
        | some L => exact (hTg.1 L e2).2.2.1
      have hTs : ss = false → rT.2 = none := fun e => by rw [hrT]; exact rd_no e
      have C57 : ∀ (z3 mt : Nat) (ct : Nat → Int32), PC rT.2 mm dd mt ct → EvP (d + 7) 41 57 [(0, .ref (b)), (1, .int (nI (4))), (2, .int (nI (i))), (3, .int (nI (z3)))] [] (PS I b mt rT.1 rT.2.isSome ct, J, K, h) (QV (PQ I J K h b r0 m cd)) := by
        intro z3 mt ct hT
        refine p_iload_n k41_57 rfl ?_
        refine p_if_leN (tgt := 67) k41_58 (by decide) (by omega) (fun cq58 => ?_) (fun cq58 => ?_)
        · skip
          refine p_aload_n k41_67 rfl ?_
          refine p_bipush (v := nI 124) k41_68 (by decide) ?_
          refine p_cV1i k41_70 hTS.1.1 c_8_109_8 rfl (Nat.le_of_ble_eq_true rfl) (C_isNext S P0 hTn (ch := 124) (by omega)) (fun x1 m1 hq => ?_)
          obtain ⟨rfl, rfl⟩ := hq
          refine p_if_neB (tgt := 77) k41_73 (by decide) (fun cq73 => ?_) (fun cq73 => ?_)
          · skip
            refine p_aload_n k41_77 rfl ?_
            refine p_bipush (v := nI 124) k41_78 (by decide) ?_
            refine p_cV1v k41_80 hTS.1.1 c_8_80_8 rfl (Nat.le_of_ble_eq_true rfl) (C_expect S P0 hTn (ch := 124) (by omega)) (fun m1 hq => ?_)
            obtain rfl := hq
            rw [ex_1 cq73, ex_2 cq73]
            refine p_iincN (ls1 := [(0, _), (1, _), (2, _), (3, _)]) k41_83 rfl rfl ?_
            refine p_goto (tgt := 2) k41_86 (by decide) ?_
            refine p_drop [0, 1, 2] rfl ?_
            obtain ⟨L1, g1, g2, g3, g4⟩ := cnt_on (fun e => (hE3 e).2.2.1) (show i < n by omega) (by rw [← hrT]; exact cq73)
            rw [← hrT] at g2 g3 g4
            have hE4 := hE3 g1
            have hL1 := hTg.1 L1 g2
            have hTm := (hT.2.2.2 L1 g2).1
            have hTq := hCT.lt (p := rT.1) (by omega)
            have hPC := EI_out hE1 hT hTs (fun e => (hE4.2.2.2.1 e).1) (by omega)
            rw [g2] at hPC
            refine ih0 (i + 1) mt (rT.1 + 1) true ct (LLs i La L1) (by omega) hPC (fun e => by cases e) (fun _ => ⟨by omega, by omega, g4, fun e => absurd e (by omega), fun _ => ?_⟩) (fun e => absurd e (by omega))
            have := hE4.2.2.2.1 (by omega)
            omega
          · skip
            refine p_return k41_76 rt_41 ?_
            have hr := cnt_end hE2 (fun e => (hE3 e).2.2.1) (show i < n by omega) (by rw [← hrT]; exact cq73)
            rw [← hrT] at hr
            rw [hr]
            refine PQ.mk rfl Option.isSome_map (EI_out (i := i) hE1 hT hTs (fun e => ?_) (by omega))
            cases hss : ss with
            | false =>
              rw [hss] at hE1
              exact hLa e
            | true => exact ((hE3 hss).2.2.2.1 e).1
        · skip
          refine p_aload_n k41_61 rfl ?_
          refine p_bipush (v := (-3)) k41_62 (by decide) ?_
          refine p_cV1v k41_64 hTS.1.1 c_8_113_8 rfl (Nat.le_of_ble_eq_true rfl) (C_addCode S P0 hT.1 (-3)) (fun m1 hq => ?_)
          obtain rfl := hq
          refine p_aload_n k41_67 rfl ?_
          refine p_bipush (v := nI 124) k41_68 (by decide) ?_
          refine p_cV1i k41_70 hTS.1.1 c_8_109_8 rfl (Nat.le_of_ble_eq_true rfl) (C_isNext S P0 hTn (ch := 124) (by omega)) (fun x1 m1 hq => ?_)
          obtain ⟨rfl, rfl⟩ := hq
          refine p_if_neB (tgt := 77) k41_73 (by decide) (fun cq73 => ?_) (fun cq73 => ?_)
          · skip
            refine p_aload_n k41_77 rfl ?_
            refine p_bipush (v := nI 124) k41_78 (by decide) ?_
            refine p_cV1v k41_80 hTS.1.1 c_8_80_8 rfl (Nat.le_of_ble_eq_true rfl) (C_expect S P0 hTn (ch := 124) (by omega)) (fun m1 hq => ?_)
            obtain rfl := hq
            rw [ex_1 cq73, ex_2 cq73]
            refine p_iincN (ls1 := [(0, _), (1, _), (2, _), (3, _)]) k41_83 rfl rfl ?_
            refine p_goto (tgt := 2) k41_86 (by decide) ?_
            refine p_drop [0, 1, 2] rfl ?_
            obtain ⟨L1, g1, g2, g3, g4⟩ := cnt_on (fun e => (hE3 e).2.2.1) (show i < n by omega) (by rw [← hrT]; exact cq73)
            rw [← hrT] at g2 g3 g4
            have hE4 := hE3 g1
            have hL1 := hTg.1 L1 g2
            have hTm := (hT.2.2.2 L1 g2).1
            have hTq := hCT.lt (p := rT.1) (by omega)
            have hlt : mt < 100 := by have := hE4.2.2.2.2 (by omega); omega
            have hPC := EI_out1 hE1 hT hTs (by omega) (fun _ => hlt)
            rw [g2] at hPC
            refine ih0 (i + 1) (if mt < 100 then mt + 1 else mt) (rT.1 + 1) true (if mt < 100 then upc ct mt (-3) else ct) (LLs i La L1) (by omega) hPC (fun e => by cases e) (fun _ => ⟨by omega, by omega, g4, fun e => absurd e (by omega), fun _ => ?_⟩) (fun e => absurd e (by omega))
            rw [if_pos hlt]
            have := hE4.2.2.2.2 (by omega)
            omega
          · skip
            refine p_return k41_76 rt_41 ?_
            have hr := cnt_end hE2 (fun e => (hE3 e).2.2.1) (show i < n by omega) (by rw [← hrT]; exact cq73)
            rw [← hrT] at hr
            rw [hr]
            refine PQ.mk rfl Option.isSome_map (EI_out1 hE1 hT hTs (by omega) (fun e => ?_))
            cases e2 : rT.2 with
            | none => rw [e2] at e; cases e
            | some L1 =>
              have hL1 := hTg.1 L1 e2
              have hTm := (hT.2.2.2 L1 e2).1
              have hE4 := hE3 hL1.1
              have := hE4.2.2.2.2 (by omega)
              omega
      have L2 : ∀ (j : Nat) (z m2 q2 : Nat) (s2 : Bool) (d2 : Nat → Int32) (Lt : List Nat), z + j = n → PC (if s2 = true then some Lt else none) mm dd m2 d2 → (s2 = false → rT = (q2, none)) → (s2 = true → ss = true ∧ pp < q2 ∧ q2 ≤ n ∧ m2 + pp ≤ mm + q2 ∧ rT = pTl c (pF c n 0) j q2 Lt) → EvP (d + 7) 41 17 [(0, .ref (b)), (1, .int (nI (4))), (2, .int (nI (i))), (3, .int (nI (z)))] [] (PS I b m2 q2 s2 d2, J, K, h) (QV (PQ I J K h b r0 m cd)) := by
        intro j
        induction j with
        | zero =>
          intro z m2 q2 s2 d2 Lt hk
          intro h1 h2 h3
          refine p_iload_n k41_17 rfl ?_
          refine p_aload_n k41_18 rfl ?_
          refine p_getIv k41_19 hTS.1.1 f_8_44_8 ((PS_fo (by decide)).trans h9) ?_
          refine p_icmp_geN (tgt := 57) k41_22 (by decide) (by omega) (by omega) (fun _ => ?_) (fun c => False.elim (by omega))
          have hr := tl_end h2 (fun e => (h3 e).2.2.2.2) (Or.inl rfl)
          have hPC : PC rT.2 mm dd m2 d2 := by rw [hr]; exact h1
          have hc := C57 z m2 d2 hPC
          have e1 : rT.1 = q2 := by rw [hr]
          have e2 : rT.2.isSome = s2 := by rw [hr]; cases s2 <;> rfl
          rw [e1, e2] at hc
          exact hc
        | succ j ih =>
          intro z m2 q2 s2 d2 Lt hk
          intro h1 h2 h3
          refine p_iload_n k41_17 rfl ?_
          refine p_aload_n k41_18 rfl ?_
          refine p_getIv k41_19 hTS.1.1 f_8_44_8 ((PS_fo (by decide)).trans h9) ?_
          refine p_icmp_geN (tgt := 57) k41_22 (by decide) (by omega) (by omega) (fun c => False.elim (by omega)) (fun _ => ?_)
          refine p_aload_n k41_25 rfl ?_
          refine p_bipush (v := nI 38) k41_26 (by decide) ?_
          refine p_cV1i k41_28 hTS.1.1 c_8_109_8 rfl (Nat.le_of_ble_eq_true rfl) (C_isNext S P0 (fun e => (h3 e).2.2.1) (ch := 38) (by omega)) (fun x1 m1 hq => ?_)
          obtain ⟨rfl, rfl⟩ := hq
          refine p_if_eqB (tgt := 57) k41_31 (by decide) (fun cq31 => ?_) (fun cq31 => ?_)
          · skip
            have hr := tl_end h2 (fun e => (h3 e).2.2.2.2) (Or.inr cq31)
            have hPC : PC rT.2 mm dd m2 d2 := by rw [hr]; exact h1
            have hc := C57 z m2 d2 hPC
            have e1 : rT.1 = q2 := by rw [hr]
            have e2 : rT.2.isSome = s2 := by rw [hr]; cases s2 <;> rfl
            rw [e1, e2] at hc
            exact hc
          · skip
            obtain ⟨hs1, hc1⟩ := nx_t cq31
            have h4 := h3 hs1
            have hE4 := hE3 h4.1
            have hmp : mm ≤ pp := by
              by_cases e : i = 0
              · exact (hE4.2.2.2.1 e).2
              · have := hE4.2.2.2.2 e
                omega
            have hqn := hCT.lt (p := q2) (by omega)
            refine p_aload_n k41_34 rfl ?_
            refine p_bipush (v := nI 38) k41_35 (by decide) ?_
            refine p_cV1v k41_37 hTS.1.1 c_8_80_8 rfl (Nat.le_of_ble_eq_true rfl) (C_expect S P0 (fun e => (h3 e).2.2.1) (ch := 38) (by omega)) (fun m1 hq => ?_)
            obtain rfl := hq
            rw [ex_1 cq31, ex_2 cq31]
            refine p_aload_n k41_40 rfl ?_
            refine p_iload_n k41_41 rfl ?_
            refine p_cV1v k41_42 hTS.1.1 c_8_106_8 rfl (Nat.le_of_ble_eq_true rfl) (C_part0 S P0 (m := m2) (p := q2 + 1) (s := true) (cd := d2) h1.1 (fun _ => ⟨by omega, by omega⟩)) (fun m1 hq => ?_)
            obtain ⟨m4, cd4, rfl, hp4⟩ := hq
            have hg := rdg (pF_pg hCT 0 (by decide)) (s := true) (p := q2 + 1) (fun _ => by omega)
            refine p_aload_n k41_45 rfl ?_
            refine p_bipush (v := (-2)) k41_46 (by decide) ?_
            refine p_cV1v k41_48 hTS.1.1 c_8_113_8 rfl (Nat.le_of_ble_eq_true rfl) (C_addCode S P0 hp4.1 (-2)) (fun m1 hq => ?_)
            obtain rfl := hq
            refine p_iincN (ls1 := [(0, _), (1, _), (2, _), (3, _)]) k41_51 rfl rfl ?_
            refine p_goto (tgt := 17) k41_54 (by decide) ?_
            obtain ⟨t1, t2⟩ := tl_on (fun e => (h3 e).2.2.2.2) cq31
            have hlt := hp4.lt (p := q2 + 1) (fun L hL => (hg.1 L hL).2) (by omega) hn100
            have hPC := TL_out (L9 := []) h1 hp4 hs1 hlt
            refine ih (z + 1) _ _ _ _ (((rd true (pF c n 0) (q2 + 1)).2.map (fun L => Lt ++ L ++ [6001])).getD []) (by omega) hPC t1 (fun e => ?_)
            cases e2 : (rd true (pF c n 0) (q2 + 1)).2 with
            | none => rw [e2] at e; cases e
            | some L2 =>
              have hg2 := hg.1 L2 e2
              have hm4 := (hp4.2.2.2 L2 e2).1
              rw [if_pos (hlt e)]
              exact ⟨h4.1, by omega, hg2.2.2.1, by omega, t2 L2 e2⟩
      obtain ⟨t1, t2⟩ := tl_st (c := c) (f := (pF c n 0)) (n := n) (p := pp) (s := ss)
      rw [← hrT] at t1 t2
      refine L2 n 0 m1 _ _ cd1 ((rd ss (pF c n 0) pp).2.getD []) (by omega) (hp1.to opt_gd) t1 (fun e => ?_)
      obtain ⟨t3, t4⟩ := t2 e
      cases e2 : (rd ss (pF c n 0) pp).2 with
      | none => rw [e2] at e; cases e
      | some L2 =>
        have hg2 := hg1.1 L2 e2
        have hm4 := (hp1.2.2.2 L2 e2).1
        exact ⟨t3, hg2.2.1, hg2.2.2.1, by omega, by rw [t4, e2]⟩
  refine L n 0 m p s cd [] (by omega) (PC.refl hm).ite (fun e => by rw [hr0, rd_f e]) (fun e => ?_) (fun _ => rfl)
  have hl1 := hl e
  exact ⟨by omega, hl1.2.2, by rw [hr0, rd_t e]; exact cnt_0, fun _ => ⟨rfl, hl1.2.1⟩, fun e => absurd rfl e⟩

set_option maxRecDepth 100000 in
set_option maxHeartbeats 4000000 in
theorem C_part1 {d : Nat} {I : Nat → Nat → Int32} {J : Nat → Nat → Int64} {K : Nat → Nat → Option Nat} {h : List xSh} (S : St K h) {b n : Nat} {c : Nat → Nat} (P : PAR I K h b c n) {m p : Nat} {s : Bool} {cd : Nat → Int32} (hm : m ≤ 100) (hl : s = true → m ≤ p ∧ p ≤ n) : EvP (d + 8) 42 0 [(0, .ref (b)), (1, .int (nI (3)))] [] (PS I b m p s cd, J, K, h) (QV (PQ I J K h b (rd s (pF c n 1) p) m cd)) := by
  have P0 := P
  obtain ⟨⟨hTS, hb29, hK8⟩, h9, hn100, hCT, htx⟩ := P
  refine p_iload_n k42_0 rfl ?_
  refine p_iconst (v := nI 4) k42_1 (by decide) ?_
  refine p_icmp_geN (tgt := 35) k42_2 (by decide) (by omega) (by omega) (fun c => False.elim (by omega)) (fun _ => ?_)
  refine p_aload_n k42_5 rfl ?_
  refine p_bipush (v := nI 33) k42_6 (by decide) ?_
  refine p_cV1i k42_8 hTS.1.1 c_8_109_8 rfl (Nat.le_of_ble_eq_true rfl) (C_isNext S P0 (fun e => (hl e).2) (ch := 33) (by omega)) (fun x1 m1 hq => ?_)
  obtain ⟨rfl, rfl⟩ := hq
  refine p_if_eqB (tgt := 35) k42_11 (by decide) (fun cq11 => ?_) (fun cq11 => ?_)
  · skip
    refine p_iload_n k42_35 rfl ?_
    refine p_iconst (v := nI 4) k42_36 (by decide) ?_
    refine p_icmp_geN (tgt := 71) k42_37 (by decide) (by omega) (by omega) (fun c => False.elim (by omega)) (fun _ => ?_)
    refine p_aload_n k42_40 rfl ?_
    refine p_bipush (v := nI 40) k42_41 (by decide) ?_
    refine p_cV1i k42_43 hTS.1.1 c_8_109_8 rfl (Nat.le_of_ble_eq_true rfl) (C_isNext S P0 (fun e => (hl e).2) (ch := 40) (by omega)) (fun x1 m1 hq => ?_)
    obtain ⟨rfl, rfl⟩ := hq
    refine p_if_eqB (tgt := 71) k42_46 (by decide) (fun cq46 => ?_) (fun cq46 => ?_)
    · skip
      refine p_aload_n k42_71 rfl ?_
      refine p_ldcs (k := 0) k42_72 (by decide) ?_
      refine p_cV1i k42_74 hTS.1.1 c_8_90_8 rfl (Nat.le_of_ble_eq_true rfl) (C_oneOf S P0 (fun e => (hl e).2) (k := 0) (by decide)) (fun x1 m1 hq => ?_)
      obtain ⟨j1, p1, s1, rfl, rfl, h1⟩ := hq
      refine p_istore_n (ls' := [(0, _), (1, _), (2, _)]) k42_77 rfl ?_
      refine p_aload_n k42_78 rfl ?_
      refine p_ldcs (k := 1) k42_79 (by decide) ?_
      refine p_cV1i k42_81 hTS.1.1 c_8_90_8 rfl (Nat.le_of_ble_eq_true rfl) (C_oneOf S P0 (OFQ.le (by decide) hCT h1) (k := 1) (by decide)) (fun x1 m1 hq => ?_)
      obtain ⟨j2, p2, s2, rfl, rfl, h2⟩ := hq
      refine p_istore_n (ls' := [(0, _), (1, _), (2, _), (3, _)]) k42_84 rfl ?_
      refine p_aload_n k42_85 rfl ?_
      refine p_iload_n k42_86 rfl ?_
      refine p_iload_n k42_87 rfl ?_
      refine p_aload_n k42_88 rfl ?_
      refine p_cV0i k42_89 hTS.1.1 c_8_100_8 (Nat.le_of_ble_eq_true rfl) (C_parseNumber S P0 (OFQ.le (by decide) hCT h2)) (fun x1 m1 hq => ?_)
      obtain ⟨v, p3, s3, rfl, hv, rfl, h3⟩ := hq
      refine p_cS3i k42_92 c_8_118 rfl rfl rfl (Nat.le_of_ble_eq_true rfl) (C_codeOf S (f := j1) (g := j2) (v := v)) (fun x1 m1 hq => ?_)
      obtain ⟨rfl, rfl⟩ := hq
      refine p_cV1v k42_95 hTS.1.1 c_8_113_8 rfl (Nat.le_of_ble_eq_true rfl) (C_addCode S P0 hm (nI ((j1 * 3 + j2) * 100 + v))) (fun m1 hq => ?_)
      obtain rfl := hq
      refine p_return k42_98 rt_42 ?_
      rw [show rd s (pF c n 1) p = rd s (pTest c) p from pF_tst (by assumption) (by assumption)]
      have e9 := tst_eq h1 h2 h3
      rw [e9]
      refine PQ.mk rfl (by cases s3 <;> rfl) (PC.tst hm (ctN_t h1.1 h2.1 hv) (fun e => ?_))
      have hg := (rdg (pTest_pg hCT) (s := s) (p := p) (fun e => (hl e).2)).1 [1000 * j1 + 100 * j2 + v] (by rw [e9, e]; rfl)
      have := hl hg.1
      omega
    · skip
      obtain ⟨hs1, hc1⟩ := nx_t cq46
      have hl1 := hl hs1
      have hpn := hCT.lt (p := p) (by omega)
      refine p_aload_n k42_49 rfl ?_
      refine p_bipush (v := nI 40) k42_50 (by decide) ?_
      refine p_cV1v k42_52 hTS.1.1 c_8_80_8 rfl (Nat.le_of_ble_eq_true rfl) (C_expect S P0 (fun e => (hl e).2) (ch := 40) (by omega)) (fun m1 hq => ?_)
      obtain rfl := hq
      rw [ex_1 cq46, ex_2 cq46]
      refine p_aload_n k42_55 rfl ?_
      refine p_iload_n k42_56 rfl ?_
      refine p_iconst (v := nI 1) k42_57 (by decide) ?_
      refine p_iaddN k42_58 ?_
      refine p_cV1v k42_59 hTS.1.1 c_8_103_8 rfl (Nat.le_of_ble_eq_true rfl) (C_eith0 S P0 (m := m) (p := p + 1) (s := true) (cd := cd) hm (fun _ => ⟨by omega, by omega, by omega⟩)) (fun m1 hq => ?_)
      obtain ⟨m1, cd1, rfl, hp1⟩ := hq
      have hg := rdg (pE_pg hCT (by decide) (by decide) (pF_pg hCT 0 (by decide))) (s := true) (p := p + 1) (fun _ => by omega)
      refine p_aload_n k42_62 rfl ?_
      refine p_bipush (v := nI 41) k42_63 (by decide) ?_
      refine p_cV1v k42_65 hTS.1.1 c_8_80_8 rfl (Nat.le_of_ble_eq_true rfl) (C_expect S P0 (fun _ => hg.2 rfl) (ch := 41) (by omega)) (fun m1 hq => ?_)
      obtain rfl := hq
      refine p_goto (tgt := 98) k42_68 (by decide) ?_
      refine p_return k42_98 rt_42 ?_
      rw [pF_par cq46]
      exact PQ.mk rfl par_s hp1.ite
  · skip
    obtain ⟨hs1, hc1⟩ := nx_t cq11
    have hl1 := hl hs1
    have hpn := hCT.lt (p := p) (by omega)
    refine p_aload_n k42_14 rfl ?_
    refine p_bipush (v := nI 33) k42_15 (by decide) ?_
    refine p_cV1v k42_17 hTS.1.1 c_8_80_8 rfl (Nat.le_of_ble_eq_true rfl) (C_expect S P0 (fun e => (hl e).2) (ch := 33) (by omega)) (fun m1 hq => ?_)
    obtain rfl := hq
    rw [ex_1 cq11, ex_2 cq11]
    refine p_aload_n k42_20 rfl ?_
    refine p_iload_n k42_21 rfl ?_
    refine p_iconst (v := nI 1) k42_22 (by decide) ?_
    refine p_iaddN k42_23 ?_
    refine p_cV1v k42_24 hTS.1.1 c_8_106_8 rfl (Nat.le_of_ble_eq_true rfl) (C_part0 S P0 (m := m) (p := p + 1) (s := true) (cd := cd) hm (fun _ => ⟨by omega, by omega⟩)) (fun m1 hq => ?_)
    obtain ⟨m1, cd1, rfl, hp1⟩ := hq
    have hg := rdg (pF_pg hCT 0 (by decide)) (s := true) (p := p + 1) (fun _ => by omega)
    refine p_aload_n k42_27 rfl ?_
    refine p_iconst (v := (-1)) k42_28 (by decide) ?_
    refine p_cV1v k42_29 hTS.1.1 c_8_113_8 rfl (Nat.le_of_ble_eq_true rfl) (C_addCode S P0 hp1.1 (-1)) (fun m1 hq => ?_)
    obtain rfl := hq
    refine p_goto (tgt := 98) k42_32 (by decide) ?_
    refine p_return k42_98 rt_42 ?_
    rw [pF_not cq11]
    exact PQ.mk rfl Option.isSome_map (hp1.ac (k := 6000) rfl (hp1.lt (fun L hL => (hg.1 L hL).2) (by omega) hn100))

set_option maxRecDepth 100000 in
set_option maxHeartbeats 4000000 in
theorem C_eith1 {d : Nat} {I : Nat → Nat → Int32} {J : Nat → Nat → Int64} {K : Nat → Nat → Option Nat} {h : List xSh} (S : St K h) {b n : Nat} {c : Nat → Nat} (P : PAR I K h b c n) {m p : Nat} {s : Bool} {cd : Nat → Int32} (hm : m ≤ 100) (hl : s = true → 1 ≤ p ∧ m ≤ p ∧ p ≤ n) : EvP (d + 9) 41 0 [(0, .ref (b)), (1, .int (nI (3)))] [] (PS I b m p s cd, J, K, h) (QV (PQ I J K h b (rd s (pE c (pF c n 1) n) p) m cd)) := by
  have P0 := P
  obtain ⟨⟨hTS, hb29, hK8⟩, h9, hn100, hCT, htx⟩ := P
  refine p_iconst (v := nI 0) k41_0 (by decide) ?_
  refine p_istore_n (ls' := [(0, _), (1, _), (2, _)]) k41_1 rfl ?_
  obtain ⟨r0, hr0⟩ : ∃ X, X = rd s (pE c (pF c n 1) n) p := ⟨_, rfl⟩
  rw [← hr0]
  have L : ∀ (j : Nat) (i mm pp : Nat) (ss : Bool) (dd : Nat → Int32) (La : List Nat), i + j = n → PC (if ss = true then some La else none) m cd mm dd → (ss = false → r0 = (pp, none)) → (ss = true → i + 1 ≤ pp ∧ pp ≤ n ∧ r0 = cnt9 c (pF c n 1) n i pp La ∧ (i = 0 → La = [] ∧ mm ≤ pp) ∧ (i ≠ 0 → mm + 1 ≤ pp)) → (i = 0 → La = []) → EvP (d + 9) 41 2 [(0, .ref (b)), (1, .int (nI (3))), (2, .int (nI (i)))] [] (PS I b mm pp ss dd, J, K, h) (QV (PQ I J K h b r0 m cd)) := by
    intro j
    induction j with
    | zero =>
      intro i mm pp ss dd La hk
      intro hE1 hE2 hE3 hLa
      refine p_iload_n k41_2 rfl ?_
      refine p_aload_n k41_3 rfl ?_
      refine p_getIv k41_4 hTS.1.1 f_8_44_8 ((PS_fo (by decide)).trans h9) ?_
      refine p_icmp_geN (tgt := 89) k41_7 (by decide) (by omega) (by omega) (fun _ => ?_) (fun c => False.elim (by omega))
      refine p_return k41_89 rt_41 ?_
      cases hss : ss with
      | true => exact absurd (hE3 hss) (fun z => absurd z.1 (by have := z.2.1; omega))
      | false =>
        rw [hE2 hss]
        exact PQ.mk rfl rfl hE1.no
    | succ j ih =>
      intro i mm pp ss dd La hk
      intro hE1 hE2 hE3 hLa
      refine p_iload_n k41_2 rfl ?_
      refine p_aload_n k41_3 rfl ?_
      refine p_getIv k41_4 hTS.1.1 f_8_44_8 ((PS_fo (by decide)).trans h9) ?_
      refine p_icmp_geN (tgt := 89) k41_7 (by decide) (by omega) (by omega) (fun c => False.elim (by omega)) (fun _ => ?_)
      refine p_aload_n k41_10 rfl ?_
      refine p_iload_n k41_11 rfl ?_
      refine p_cV1v k41_12 hTS.1.1 c_8_106_8 rfl (Nat.le_of_ble_eq_true rfl) (C_part1 S P0 (m := mm) (p := pp) (s := ss) (cd := dd) hE1.1 (fun e => ⟨by have h := hE3 e; by_cases e0 : i = 0; exact (h.2.2.2.1 e0).2; have := h.2.2.2.2 e0; omega, (hE3 e).2.1⟩)) (fun m1 hq => ?_)
      obtain ⟨m1, cd1, rfl, hp1⟩ := hq
      have hg1 := rdg (pF_pg hCT 1 (by decide)) (s := ss) (p := pp) (fun e => (hE3 e).2.1)
      refine p_iconst (v := nI 0) k41_15 (by decide) ?_
      refine p_istore_n (ls' := [(0, _), (1, _), (2, _), (3, _)]) k41_16 rfl ?_
      have ih0 := ih
      obtain ⟨rT, hrT⟩ : ∃ X, X = rd ss (pT c (pF c n 1) n) pp := ⟨_, rfl⟩
      have hTg := rdg (pT_pg hCT (by decide) (by decide) (pF_pg hCT 1 (by decide))) (s := ss) (p := pp) (fun e => (hE3 e).2.1)
      rw [← hrT] at hTg
      have hTn : rT.2.isSome = true → rT.1 ≤ n := fun e => by
        cases e2 : rT.2 with
        | none => rw [e2] at e; cases e
        | some L => exact (hTg.1 L e2).2.2.1
      have hTs : ss = false → rT.2 = none := fun e => by rw [hrT]; exact rd_no e
      have C57 : ∀ (z3 mt : Nat) (ct : Nat → Int32), PC rT.2 mm dd mt ct → EvP (d + 9) 41 57 [(0, .ref (b)), (1, .int (nI (3))), (2, .int (nI (i))), (3, .int (nI (z3)))] [] (PS I b mt rT.1 rT.2.isSome ct, J, K, h) (QV (PQ I J K h b r0 m cd)) := by
        intro z3 mt ct hT
        refine p_iload_n k41_57 rfl ?_
        refine p_if_leN (tgt := 67) k41_58 (by decide) (by omega) (fun cq58 => ?_) (fun cq58 => ?_)
        · skip
          refine p_aload_n k41_67 rfl ?_
          refine p_bipush (v := nI 124) k41_68 (by decide) ?_
          refine p_cV1i k41_70 hTS.1.1 c_8_109_8 rfl (Nat.le_of_ble_eq_true rfl) (C_isNext S P0 hTn (ch := 124) (by omega)) (fun x1 m1 hq => ?_)
          obtain ⟨rfl, rfl⟩ := hq
          refine p_if_neB (tgt := 77) k41_73 (by decide) (fun cq73 => ?_) (fun cq73 => ?_)
          · skip
            refine p_aload_n k41_77 rfl ?_
            refine p_bipush (v := nI 124) k41_78 (by decide) ?_
            refine p_cV1v k41_80 hTS.1.1 c_8_80_8 rfl (Nat.le_of_ble_eq_true rfl) (C_expect S P0 hTn (ch := 124) (by omega)) (fun m1 hq => ?_)
            obtain rfl := hq
            rw [ex_1 cq73, ex_2 cq73]
            refine p_iincN (ls1 := [(0, _), (1, _), (2, _), (3, _)]) k41_83 rfl rfl ?_
            refine p_goto (tgt := 2) k41_86 (by decide) ?_
            refine p_drop [0, 1, 2] rfl ?_
            obtain ⟨L1, g1, g2, g3, g4⟩ := cnt_on (fun e => (hE3 e).2.2.1) (show i < n by omega) (by rw [← hrT]; exact cq73)
            rw [← hrT] at g2 g3 g4
            have hE4 := hE3 g1
            have hL1 := hTg.1 L1 g2
            have hTm := (hT.2.2.2 L1 g2).1
            have hTq := hCT.lt (p := rT.1) (by omega)
            have hPC := EI_out hE1 hT hTs (fun e => (hE4.2.2.2.1 e).1) (by omega)
            rw [g2] at hPC
            refine ih0 (i + 1) mt (rT.1 + 1) true ct (LLs i La L1) (by omega) hPC (fun e => by cases e) (fun _ => ⟨by omega, by omega, g4, fun e => absurd e (by omega), fun _ => ?_⟩) (fun e => absurd e (by omega))
            have := hE4.2.2.2.1 (by omega)
            omega
          · skip
            refine p_return k41_76 rt_41 ?_
            have hr := cnt_end hE2 (fun e => (hE3 e).2.2.1) (show i < n by omega) (by rw [← hrT]; exact cq73)
            rw [← hrT] at hr
            rw [hr]
            refine PQ.mk rfl Option.isSome_map (EI_out (i := i) hE1 hT hTs (fun e => ?_) (by omega))
            cases hss : ss with
            | false =>
              rw [hss] at hE1
              exact hLa e
            | true => exact ((hE3 hss).2.2.2.1 e).1
        · skip
          refine p_aload_n k41_61 rfl ?_
          refine p_bipush (v := (-3)) k41_62 (by decide) ?_
          refine p_cV1v k41_64 hTS.1.1 c_8_113_8 rfl (Nat.le_of_ble_eq_true rfl) (C_addCode S P0 hT.1 (-3)) (fun m1 hq => ?_)
          obtain rfl := hq
          refine p_aload_n k41_67 rfl ?_
          refine p_bipush (v := nI 124) k41_68 (by decide) ?_
          refine p_cV1i k41_70 hTS.1.1 c_8_109_8 rfl (Nat.le_of_ble_eq_true rfl) (C_isNext S P0 hTn (ch := 124) (by omega)) (fun x1 m1 hq => ?_)
          obtain ⟨rfl, rfl⟩ := hq
          refine p_if_neB (tgt := 77) k41_73 (by decide) (fun cq73 => ?_) (fun cq73 => ?_)
          · skip
            refine p_aload_n k41_77 rfl ?_
            refine p_bipush (v := nI 124) k41_78 (by decide) ?_
            refine p_cV1v k41_80 hTS.1.1 c_8_80_8 rfl (Nat.le_of_ble_eq_true rfl) (C_expect S P0 hTn (ch := 124) (by omega)) (fun m1 hq => ?_)
            obtain rfl := hq
            rw [ex_1 cq73, ex_2 cq73]
            refine p_iincN (ls1 := [(0, _), (1, _), (2, _), (3, _)]) k41_83 rfl rfl ?_
            refine p_goto (tgt := 2) k41_86 (by decide) ?_
            refine p_drop [0, 1, 2] rfl ?_
            obtain ⟨L1, g1, g2, g3, g4⟩ := cnt_on (fun e => (hE3 e).2.2.1) (show i < n by omega) (by rw [← hrT]; exact cq73)
            rw [← hrT] at g2 g3 g4
            have hE4 := hE3 g1
            have hL1 := hTg.1 L1 g2
            have hTm := (hT.2.2.2 L1 g2).1
            have hTq := hCT.lt (p := rT.1) (by omega)
            have hlt : mt < 100 := by have := hE4.2.2.2.2 (by omega); omega
            have hPC := EI_out1 hE1 hT hTs (by omega) (fun _ => hlt)
            rw [g2] at hPC
            refine ih0 (i + 1) (if mt < 100 then mt + 1 else mt) (rT.1 + 1) true (if mt < 100 then upc ct mt (-3) else ct) (LLs i La L1) (by omega) hPC (fun e => by cases e) (fun _ => ⟨by omega, by omega, g4, fun e => absurd e (by omega), fun _ => ?_⟩) (fun e => absurd e (by omega))
            rw [if_pos hlt]
            have := hE4.2.2.2.2 (by omega)
            omega
          · skip
            refine p_return k41_76 rt_41 ?_
            have hr := cnt_end hE2 (fun e => (hE3 e).2.2.1) (show i < n by omega) (by rw [← hrT]; exact cq73)
            rw [← hrT] at hr
            rw [hr]
            refine PQ.mk rfl Option.isSome_map (EI_out1 hE1 hT hTs (by omega) (fun e => ?_))
            cases e2 : rT.2 with
            | none => rw [e2] at e; cases e
            | some L1 =>
              have hL1 := hTg.1 L1 e2
              have hTm := (hT.2.2.2 L1 e2).1
              have hE4 := hE3 hL1.1
              have := hE4.2.2.2.2 (by omega)
              omega
      have L2 : ∀ (j : Nat) (z m2 q2 : Nat) (s2 : Bool) (d2 : Nat → Int32) (Lt : List Nat), z + j = n → PC (if s2 = true then some Lt else none) mm dd m2 d2 → (s2 = false → rT = (q2, none)) → (s2 = true → ss = true ∧ pp < q2 ∧ q2 ≤ n ∧ m2 + pp ≤ mm + q2 ∧ rT = pTl c (pF c n 1) j q2 Lt) → EvP (d + 9) 41 17 [(0, .ref (b)), (1, .int (nI (3))), (2, .int (nI (i))), (3, .int (nI (z)))] [] (PS I b m2 q2 s2 d2, J, K, h) (QV (PQ I J K h b r0 m cd)) := by
        intro j
        induction j with
        | zero =>
          intro z m2 q2 s2 d2 Lt hk
          intro h1 h2 h3
          refine p_iload_n k41_17 rfl ?_
          refine p_aload_n k41_18 rfl ?_
          refine p_getIv k41_19 hTS.1.1 f_8_44_8 ((PS_fo (by decide)).trans h9) ?_
          refine p_icmp_geN (tgt := 57) k41_22 (by decide) (by omega) (by omega) (fun _ => ?_) (fun c => False.elim (by omega))
          have hr := tl_end h2 (fun e => (h3 e).2.2.2.2) (Or.inl rfl)
          have hPC : PC rT.2 mm dd m2 d2 := by rw [hr]; exact h1
          have hc := C57 z m2 d2 hPC
          have e1 : rT.1 = q2 := by rw [hr]
          have e2 : rT.2.isSome = s2 := by rw [hr]; cases s2 <;> rfl
          rw [e1, e2] at hc
          exact hc
        | succ j ih =>
          intro z m2 q2 s2 d2 Lt hk
          intro h1 h2 h3
          refine p_iload_n k41_17 rfl ?_
          refine p_aload_n k41_18 rfl ?_
          refine p_getIv k41_19 hTS.1.1 f_8_44_8 ((PS_fo (by decide)).trans h9) ?_
          refine p_icmp_geN (tgt := 57) k41_22 (by decide) (by omega) (by omega) (fun c => False.elim (by omega)) (fun _ => ?_)
          refine p_aload_n k41_25 rfl ?_
          refine p_bipush (v := nI 38) k41_26 (by decide) ?_
          refine p_cV1i k41_28 hTS.1.1 c_8_109_8 rfl (Nat.le_of_ble_eq_true rfl) (C_isNext S P0 (fun e => (h3 e).2.2.1) (ch := 38) (by omega)) (fun x1 m1 hq => ?_)
          obtain ⟨rfl, rfl⟩ := hq
          refine p_if_eqB (tgt := 57) k41_31 (by decide) (fun cq31 => ?_) (fun cq31 => ?_)
          · skip
            have hr := tl_end h2 (fun e => (h3 e).2.2.2.2) (Or.inr cq31)
            have hPC : PC rT.2 mm dd m2 d2 := by rw [hr]; exact h1
            have hc := C57 z m2 d2 hPC
            have e1 : rT.1 = q2 := by rw [hr]
            have e2 : rT.2.isSome = s2 := by rw [hr]; cases s2 <;> rfl
            rw [e1, e2] at hc
            exact hc
          · skip
            obtain ⟨hs1, hc1⟩ := nx_t cq31
            have h4 := h3 hs1
            have hE4 := hE3 h4.1
            have hmp : mm ≤ pp := by
              by_cases e : i = 0
              · exact (hE4.2.2.2.1 e).2
              · have := hE4.2.2.2.2 e
                omega
            have hqn := hCT.lt (p := q2) (by omega)
            refine p_aload_n k41_34 rfl ?_
            refine p_bipush (v := nI 38) k41_35 (by decide) ?_
            refine p_cV1v k41_37 hTS.1.1 c_8_80_8 rfl (Nat.le_of_ble_eq_true rfl) (C_expect S P0 (fun e => (h3 e).2.2.1) (ch := 38) (by omega)) (fun m1 hq => ?_)
            obtain rfl := hq
            rw [ex_1 cq31, ex_2 cq31]
            refine p_aload_n k41_40 rfl ?_
            refine p_iload_n k41_41 rfl ?_
            refine p_cV1v k41_42 hTS.1.1 c_8_106_8 rfl (Nat.le_of_ble_eq_true rfl) (C_part1 S P0 (m := m2) (p := q2 + 1) (s := true) (cd := d2) h1.1 (fun _ => ⟨by omega, by omega⟩)) (fun m1 hq => ?_)
            obtain ⟨m4, cd4, rfl, hp4⟩ := hq
            have hg := rdg (pF_pg hCT 1 (by decide)) (s := true) (p := q2 + 1) (fun _ => by omega)
            refine p_aload_n k41_45 rfl ?_
            refine p_bipush (v := (-2)) k41_46 (by decide) ?_
            refine p_cV1v k41_48 hTS.1.1 c_8_113_8 rfl (Nat.le_of_ble_eq_true rfl) (C_addCode S P0 hp4.1 (-2)) (fun m1 hq => ?_)
            obtain rfl := hq
            refine p_iincN (ls1 := [(0, _), (1, _), (2, _), (3, _)]) k41_51 rfl rfl ?_
            refine p_goto (tgt := 17) k41_54 (by decide) ?_
            obtain ⟨t1, t2⟩ := tl_on (fun e => (h3 e).2.2.2.2) cq31
            have hlt := hp4.lt (p := q2 + 1) (fun L hL => (hg.1 L hL).2) (by omega) hn100
            have hPC := TL_out (L9 := []) h1 hp4 hs1 hlt
            refine ih (z + 1) _ _ _ _ (((rd true (pF c n 1) (q2 + 1)).2.map (fun L => Lt ++ L ++ [6001])).getD []) (by omega) hPC t1 (fun e => ?_)
            cases e2 : (rd true (pF c n 1) (q2 + 1)).2 with
            | none => rw [e2] at e; cases e
            | some L2 =>
              have hg2 := hg.1 L2 e2
              have hm4 := (hp4.2.2.2 L2 e2).1
              rw [if_pos (hlt e)]
              exact ⟨h4.1, by omega, hg2.2.2.1, by omega, t2 L2 e2⟩
      obtain ⟨t1, t2⟩ := tl_st (c := c) (f := (pF c n 1)) (n := n) (p := pp) (s := ss)
      rw [← hrT] at t1 t2
      refine L2 n 0 m1 _ _ cd1 ((rd ss (pF c n 1) pp).2.getD []) (by omega) (hp1.to opt_gd) t1 (fun e => ?_)
      obtain ⟨t3, t4⟩ := t2 e
      cases e2 : (rd ss (pF c n 1) pp).2 with
      | none => rw [e2] at e; cases e
      | some L2 =>
        have hg2 := hg1.1 L2 e2
        have hm4 := (hp1.2.2.2 L2 e2).1
        exact ⟨t3, hg2.2.1, hg2.2.2.1, by omega, by rw [t4, e2]⟩
  refine L n 0 m p s cd [] (by omega) (PC.refl hm).ite (fun e => by rw [hr0, rd_f e]) (fun e => ?_) (fun _ => rfl)
  have hl1 := hl e
  exact ⟨by omega, hl1.2.2, by rw [hr0, rd_t e]; exact cnt_0, fun _ => ⟨rfl, hl1.2.1⟩, fun e => absurd rfl e⟩

set_option maxRecDepth 100000 in
set_option maxHeartbeats 4000000 in
theorem C_part2 {d : Nat} {I : Nat → Nat → Int32} {J : Nat → Nat → Int64} {K : Nat → Nat → Option Nat} {h : List xSh} (S : St K h) {b n : Nat} {c : Nat → Nat} (P : PAR I K h b c n) {m p : Nat} {s : Bool} {cd : Nat → Int32} (hm : m ≤ 100) (hl : s = true → m ≤ p ∧ p ≤ n) : EvP (d + 10) 42 0 [(0, .ref (b)), (1, .int (nI (2)))] [] (PS I b m p s cd, J, K, h) (QV (PQ I J K h b (rd s (pF c n 2) p) m cd)) := by
  have P0 := P
  obtain ⟨⟨hTS, hb29, hK8⟩, h9, hn100, hCT, htx⟩ := P
  refine p_iload_n k42_0 rfl ?_
  refine p_iconst (v := nI 4) k42_1 (by decide) ?_
  refine p_icmp_geN (tgt := 35) k42_2 (by decide) (by omega) (by omega) (fun c => False.elim (by omega)) (fun _ => ?_)
  refine p_aload_n k42_5 rfl ?_
  refine p_bipush (v := nI 33) k42_6 (by decide) ?_
  refine p_cV1i k42_8 hTS.1.1 c_8_109_8 rfl (Nat.le_of_ble_eq_true rfl) (C_isNext S P0 (fun e => (hl e).2) (ch := 33) (by omega)) (fun x1 m1 hq => ?_)
  obtain ⟨rfl, rfl⟩ := hq
  refine p_if_eqB (tgt := 35) k42_11 (by decide) (fun cq11 => ?_) (fun cq11 => ?_)
  · skip
    refine p_iload_n k42_35 rfl ?_
    refine p_iconst (v := nI 4) k42_36 (by decide) ?_
    refine p_icmp_geN (tgt := 71) k42_37 (by decide) (by omega) (by omega) (fun c => False.elim (by omega)) (fun _ => ?_)
    refine p_aload_n k42_40 rfl ?_
    refine p_bipush (v := nI 40) k42_41 (by decide) ?_
    refine p_cV1i k42_43 hTS.1.1 c_8_109_8 rfl (Nat.le_of_ble_eq_true rfl) (C_isNext S P0 (fun e => (hl e).2) (ch := 40) (by omega)) (fun x1 m1 hq => ?_)
    obtain ⟨rfl, rfl⟩ := hq
    refine p_if_eqB (tgt := 71) k42_46 (by decide) (fun cq46 => ?_) (fun cq46 => ?_)
    · skip
      refine p_aload_n k42_71 rfl ?_
      refine p_ldcs (k := 0) k42_72 (by decide) ?_
      refine p_cV1i k42_74 hTS.1.1 c_8_90_8 rfl (Nat.le_of_ble_eq_true rfl) (C_oneOf S P0 (fun e => (hl e).2) (k := 0) (by decide)) (fun x1 m1 hq => ?_)
      obtain ⟨j1, p1, s1, rfl, rfl, h1⟩ := hq
      refine p_istore_n (ls' := [(0, _), (1, _), (2, _)]) k42_77 rfl ?_
      refine p_aload_n k42_78 rfl ?_
      refine p_ldcs (k := 1) k42_79 (by decide) ?_
      refine p_cV1i k42_81 hTS.1.1 c_8_90_8 rfl (Nat.le_of_ble_eq_true rfl) (C_oneOf S P0 (OFQ.le (by decide) hCT h1) (k := 1) (by decide)) (fun x1 m1 hq => ?_)
      obtain ⟨j2, p2, s2, rfl, rfl, h2⟩ := hq
      refine p_istore_n (ls' := [(0, _), (1, _), (2, _), (3, _)]) k42_84 rfl ?_
      refine p_aload_n k42_85 rfl ?_
      refine p_iload_n k42_86 rfl ?_
      refine p_iload_n k42_87 rfl ?_
      refine p_aload_n k42_88 rfl ?_
      refine p_cV0i k42_89 hTS.1.1 c_8_100_8 (Nat.le_of_ble_eq_true rfl) (C_parseNumber S P0 (OFQ.le (by decide) hCT h2)) (fun x1 m1 hq => ?_)
      obtain ⟨v, p3, s3, rfl, hv, rfl, h3⟩ := hq
      refine p_cS3i k42_92 c_8_118 rfl rfl rfl (Nat.le_of_ble_eq_true rfl) (C_codeOf S (f := j1) (g := j2) (v := v)) (fun x1 m1 hq => ?_)
      obtain ⟨rfl, rfl⟩ := hq
      refine p_cV1v k42_95 hTS.1.1 c_8_113_8 rfl (Nat.le_of_ble_eq_true rfl) (C_addCode S P0 hm (nI ((j1 * 3 + j2) * 100 + v))) (fun m1 hq => ?_)
      obtain rfl := hq
      refine p_return k42_98 rt_42 ?_
      rw [show rd s (pF c n 2) p = rd s (pTest c) p from pF_tst (by assumption) (by assumption)]
      have e9 := tst_eq h1 h2 h3
      rw [e9]
      refine PQ.mk rfl (by cases s3 <;> rfl) (PC.tst hm (ctN_t h1.1 h2.1 hv) (fun e => ?_))
      have hg := (rdg (pTest_pg hCT) (s := s) (p := p) (fun e => (hl e).2)).1 [1000 * j1 + 100 * j2 + v] (by rw [e9, e]; rfl)
      have := hl hg.1
      omega
    · skip
      obtain ⟨hs1, hc1⟩ := nx_t cq46
      have hl1 := hl hs1
      have hpn := hCT.lt (p := p) (by omega)
      refine p_aload_n k42_49 rfl ?_
      refine p_bipush (v := nI 40) k42_50 (by decide) ?_
      refine p_cV1v k42_52 hTS.1.1 c_8_80_8 rfl (Nat.le_of_ble_eq_true rfl) (C_expect S P0 (fun e => (hl e).2) (ch := 40) (by omega)) (fun m1 hq => ?_)
      obtain rfl := hq
      rw [ex_1 cq46, ex_2 cq46]
      refine p_aload_n k42_55 rfl ?_
      refine p_iload_n k42_56 rfl ?_
      refine p_iconst (v := nI 1) k42_57 (by decide) ?_
      refine p_iaddN k42_58 ?_
      refine p_cV1v k42_59 hTS.1.1 c_8_103_8 rfl (Nat.le_of_ble_eq_true rfl) (C_eith1 S P0 (m := m) (p := p + 1) (s := true) (cd := cd) hm (fun _ => ⟨by omega, by omega, by omega⟩)) (fun m1 hq => ?_)
      obtain ⟨m1, cd1, rfl, hp1⟩ := hq
      have hg := rdg (pE_pg hCT (by decide) (by decide) (pF_pg hCT 1 (by decide))) (s := true) (p := p + 1) (fun _ => by omega)
      refine p_aload_n k42_62 rfl ?_
      refine p_bipush (v := nI 41) k42_63 (by decide) ?_
      refine p_cV1v k42_65 hTS.1.1 c_8_80_8 rfl (Nat.le_of_ble_eq_true rfl) (C_expect S P0 (fun _ => hg.2 rfl) (ch := 41) (by omega)) (fun m1 hq => ?_)
      obtain rfl := hq
      refine p_goto (tgt := 98) k42_68 (by decide) ?_
      refine p_return k42_98 rt_42 ?_
      rw [pF_par cq46]
      exact PQ.mk rfl par_s hp1.ite
  · skip
    obtain ⟨hs1, hc1⟩ := nx_t cq11
    have hl1 := hl hs1
    have hpn := hCT.lt (p := p) (by omega)
    refine p_aload_n k42_14 rfl ?_
    refine p_bipush (v := nI 33) k42_15 (by decide) ?_
    refine p_cV1v k42_17 hTS.1.1 c_8_80_8 rfl (Nat.le_of_ble_eq_true rfl) (C_expect S P0 (fun e => (hl e).2) (ch := 33) (by omega)) (fun m1 hq => ?_)
    obtain rfl := hq
    rw [ex_1 cq11, ex_2 cq11]
    refine p_aload_n k42_20 rfl ?_
    refine p_iload_n k42_21 rfl ?_
    refine p_iconst (v := nI 1) k42_22 (by decide) ?_
    refine p_iaddN k42_23 ?_
    refine p_cV1v k42_24 hTS.1.1 c_8_106_8 rfl (Nat.le_of_ble_eq_true rfl) (C_part1 S P0 (m := m) (p := p + 1) (s := true) (cd := cd) hm (fun _ => ⟨by omega, by omega⟩)) (fun m1 hq => ?_)
    obtain ⟨m1, cd1, rfl, hp1⟩ := hq
    have hg := rdg (pF_pg hCT 1 (by decide)) (s := true) (p := p + 1) (fun _ => by omega)
    refine p_aload_n k42_27 rfl ?_
    refine p_iconst (v := (-1)) k42_28 (by decide) ?_
    refine p_cV1v k42_29 hTS.1.1 c_8_113_8 rfl (Nat.le_of_ble_eq_true rfl) (C_addCode S P0 hp1.1 (-1)) (fun m1 hq => ?_)
    obtain rfl := hq
    refine p_goto (tgt := 98) k42_32 (by decide) ?_
    refine p_return k42_98 rt_42 ?_
    rw [pF_not cq11]
    exact PQ.mk rfl Option.isSome_map (hp1.ac (k := 6000) rfl (hp1.lt (fun L hL => (hg.1 L hL).2) (by omega) hn100))

set_option maxRecDepth 100000 in
set_option maxHeartbeats 4000000 in
theorem C_eith2 {d : Nat} {I : Nat → Nat → Int32} {J : Nat → Nat → Int64} {K : Nat → Nat → Option Nat} {h : List xSh} (S : St K h) {b n : Nat} {c : Nat → Nat} (P : PAR I K h b c n) {m p : Nat} {s : Bool} {cd : Nat → Int32} (hm : m ≤ 100) (hl : s = true → 1 ≤ p ∧ m ≤ p ∧ p ≤ n) : EvP (d + 11) 41 0 [(0, .ref (b)), (1, .int (nI (2)))] [] (PS I b m p s cd, J, K, h) (QV (PQ I J K h b (rd s (pE c (pF c n 2) n) p) m cd)) := by
  have P0 := P
  obtain ⟨⟨hTS, hb29, hK8⟩, h9, hn100, hCT, htx⟩ := P
  refine p_iconst (v := nI 0) k41_0 (by decide) ?_
  refine p_istore_n (ls' := [(0, _), (1, _), (2, _)]) k41_1 rfl ?_
  obtain ⟨r0, hr0⟩ : ∃ X, X = rd s (pE c (pF c n 2) n) p := ⟨_, rfl⟩
  rw [← hr0]
  have L : ∀ (j : Nat) (i mm pp : Nat) (ss : Bool) (dd : Nat → Int32) (La : List Nat), i + j = n → PC (if ss = true then some La else none) m cd mm dd → (ss = false → r0 = (pp, none)) → (ss = true → i + 1 ≤ pp ∧ pp ≤ n ∧ r0 = cnt9 c (pF c n 2) n i pp La ∧ (i = 0 → La = [] ∧ mm ≤ pp) ∧ (i ≠ 0 → mm + 1 ≤ pp)) → (i = 0 → La = []) → EvP (d + 11) 41 2 [(0, .ref (b)), (1, .int (nI (2))), (2, .int (nI (i)))] [] (PS I b mm pp ss dd, J, K, h) (QV (PQ I J K h b r0 m cd)) := by
    intro j
    induction j with
    | zero =>
      intro i mm pp ss dd La hk
      intro hE1 hE2 hE3 hLa
      refine p_iload_n k41_2 rfl ?_
      refine p_aload_n k41_3 rfl ?_
      refine p_getIv k41_4 hTS.1.1 f_8_44_8 ((PS_fo (by decide)).trans h9) ?_
      refine p_icmp_geN (tgt := 89) k41_7 (by decide) (by omega) (by omega) (fun _ => ?_) (fun c => False.elim (by omega))
      refine p_return k41_89 rt_41 ?_
      cases hss : ss with
      | true => exact absurd (hE3 hss) (fun z => absurd z.1 (by have := z.2.1; omega))
      | false =>
        rw [hE2 hss]
        exact PQ.mk rfl rfl hE1.no
    | succ j ih =>
      intro i mm pp ss dd La hk
      intro hE1 hE2 hE3 hLa
      refine p_iload_n k41_2 rfl ?_
      refine p_aload_n k41_3 rfl ?_
      refine p_getIv k41_4 hTS.1.1 f_8_44_8 ((PS_fo (by decide)).trans h9) ?_
      refine p_icmp_geN (tgt := 89) k41_7 (by decide) (by omega) (by omega) (fun c => False.elim (by omega)) (fun _ => ?_)
      refine p_aload_n k41_10 rfl ?_
      refine p_iload_n k41_11 rfl ?_
      refine p_cV1v k41_12 hTS.1.1 c_8_106_8 rfl (Nat.le_of_ble_eq_true rfl) (C_part2 S P0 (m := mm) (p := pp) (s := ss) (cd := dd) hE1.1 (fun e => ⟨by have h := hE3 e; by_cases e0 : i = 0; exact (h.2.2.2.1 e0).2; have := h.2.2.2.2 e0; omega, (hE3 e).2.1⟩)) (fun m1 hq => ?_)
      obtain ⟨m1, cd1, rfl, hp1⟩ := hq
      have hg1 := rdg (pF_pg hCT 2 (by decide)) (s := ss) (p := pp) (fun e => (hE3 e).2.1)
      refine p_iconst (v := nI 0) k41_15 (by decide) ?_
      refine p_istore_n (ls' := [(0, _), (1, _), (2, _), (3, _)]) k41_16 rfl ?_
      have ih0 := ih
      obtain ⟨rT, hrT⟩ : ∃ X, X = rd ss (pT c (pF c n 2) n) pp := ⟨_, rfl⟩
      have hTg := rdg (pT_pg hCT (by decide) (by decide) (pF_pg hCT 2 (by decide))) (s := ss) (p := pp) (fun e => (hE3 e).2.1)
      rw [← hrT] at hTg
      have hTn : rT.2.isSome = true → rT.1 ≤ n := fun e => by
        cases e2 : rT.2 with
        | none => rw [e2] at e; cases e
        | some L => exact (hTg.1 L e2).2.2.1
      have hTs : ss = false → rT.2 = none := fun e => by rw [hrT]; exact rd_no e
      have C57 : ∀ (z3 mt : Nat) (ct : Nat → Int32), PC rT.2 mm dd mt ct → EvP (d + 11) 41 57 [(0, .ref (b)), (1, .int (nI (2))), (2, .int (nI (i))), (3, .int (nI (z3)))] [] (PS I b mt rT.1 rT.2.isSome ct, J, K, h) (QV (PQ I J K h b r0 m cd)) := by
        intro z3 mt ct hT
        refine p_iload_n k41_57 rfl ?_
        refine p_if_leN (tgt := 67) k41_58 (by decide) (by omega) (fun cq58 => ?_) (fun cq58 => ?_)
        · skip
          refine p_aload_n k41_67 rfl ?_
          refine p_bipush (v := nI 124) k41_68 (by decide) ?_
          refine p_cV1i k41_70 hTS.1.1 c_8_109_8 rfl (Nat.le_of_ble_eq_true rfl) (C_isNext S P0 hTn (ch := 124) (by omega)) (fun x1 m1 hq => ?_)
          obtain ⟨rfl, rfl⟩ := hq
          refine p_if_neB (tgt := 77) k41_73 (by decide) (fun cq73 => ?_) (fun cq73 => ?_)
          · skip
            refine p_aload_n k41_77 rfl ?_
            refine p_bipush (v := nI 124) k41_78 (by decide) ?_
            refine p_cV1v k41_80 hTS.1.1 c_8_80_8 rfl (Nat.le_of_ble_eq_true rfl) (C_expect S P0 hTn (ch := 124) (by omega)) (fun m1 hq => ?_)
            obtain rfl := hq
            rw [ex_1 cq73, ex_2 cq73]
            refine p_iincN (ls1 := [(0, _), (1, _), (2, _), (3, _)]) k41_83 rfl rfl ?_
            refine p_goto (tgt := 2) k41_86 (by decide) ?_
            refine p_drop [0, 1, 2] rfl ?_
            obtain ⟨L1, g1, g2, g3, g4⟩ := cnt_on (fun e => (hE3 e).2.2.1) (show i < n by omega) (by rw [← hrT]; exact cq73)
            rw [← hrT] at g2 g3 g4
            have hE4 := hE3 g1
            have hL1 := hTg.1 L1 g2
            have hTm := (hT.2.2.2 L1 g2).1
            have hTq := hCT.lt (p := rT.1) (by omega)
            have hPC := EI_out hE1 hT hTs (fun e => (hE4.2.2.2.1 e).1) (by omega)
            rw [g2] at hPC
            refine ih0 (i + 1) mt (rT.1 + 1) true ct (LLs i La L1) (by omega) hPC (fun e => by cases e) (fun _ => ⟨by omega, by omega, g4, fun e => absurd e (by omega), fun _ => ?_⟩) (fun e => absurd e (by omega))
            have := hE4.2.2.2.1 (by omega)
            omega
          · skip
            refine p_return k41_76 rt_41 ?_
            have hr := cnt_end hE2 (fun e => (hE3 e).2.2.1) (show i < n by omega) (by rw [← hrT]; exact cq73)
            rw [← hrT] at hr
            rw [hr]
            refine PQ.mk rfl Option.isSome_map (EI_out (i := i) hE1 hT hTs (fun e => ?_) (by omega))
            cases hss : ss with
            | false =>
              rw [hss] at hE1
              exact hLa e
            | true => exact ((hE3 hss).2.2.2.1 e).1
        · skip
          refine p_aload_n k41_61 rfl ?_
          refine p_bipush (v := (-3)) k41_62 (by decide) ?_
          refine p_cV1v k41_64 hTS.1.1 c_8_113_8 rfl (Nat.le_of_ble_eq_true rfl) (C_addCode S P0 hT.1 (-3)) (fun m1 hq => ?_)
          obtain rfl := hq
          refine p_aload_n k41_67 rfl ?_
          refine p_bipush (v := nI 124) k41_68 (by decide) ?_
          refine p_cV1i k41_70 hTS.1.1 c_8_109_8 rfl (Nat.le_of_ble_eq_true rfl) (C_isNext S P0 hTn (ch := 124) (by omega)) (fun x1 m1 hq => ?_)
          obtain ⟨rfl, rfl⟩ := hq
          refine p_if_neB (tgt := 77) k41_73 (by decide) (fun cq73 => ?_) (fun cq73 => ?_)
          · skip
            refine p_aload_n k41_77 rfl ?_
            refine p_bipush (v := nI 124) k41_78 (by decide) ?_
            refine p_cV1v k41_80 hTS.1.1 c_8_80_8 rfl (Nat.le_of_ble_eq_true rfl) (C_expect S P0 hTn (ch := 124) (by omega)) (fun m1 hq => ?_)
            obtain rfl := hq
            rw [ex_1 cq73, ex_2 cq73]
            refine p_iincN (ls1 := [(0, _), (1, _), (2, _), (3, _)]) k41_83 rfl rfl ?_
            refine p_goto (tgt := 2) k41_86 (by decide) ?_
            refine p_drop [0, 1, 2] rfl ?_
            obtain ⟨L1, g1, g2, g3, g4⟩ := cnt_on (fun e => (hE3 e).2.2.1) (show i < n by omega) (by rw [← hrT]; exact cq73)
            rw [← hrT] at g2 g3 g4
            have hE4 := hE3 g1
            have hL1 := hTg.1 L1 g2
            have hTm := (hT.2.2.2 L1 g2).1
            have hTq := hCT.lt (p := rT.1) (by omega)
            have hlt : mt < 100 := by have := hE4.2.2.2.2 (by omega); omega
            have hPC := EI_out1 hE1 hT hTs (by omega) (fun _ => hlt)
            rw [g2] at hPC
            refine ih0 (i + 1) (if mt < 100 then mt + 1 else mt) (rT.1 + 1) true (if mt < 100 then upc ct mt (-3) else ct) (LLs i La L1) (by omega) hPC (fun e => by cases e) (fun _ => ⟨by omega, by omega, g4, fun e => absurd e (by omega), fun _ => ?_⟩) (fun e => absurd e (by omega))
            rw [if_pos hlt]
            have := hE4.2.2.2.2 (by omega)
            omega
          · skip
            refine p_return k41_76 rt_41 ?_
            have hr := cnt_end hE2 (fun e => (hE3 e).2.2.1) (show i < n by omega) (by rw [← hrT]; exact cq73)
            rw [← hrT] at hr
            rw [hr]
            refine PQ.mk rfl Option.isSome_map (EI_out1 hE1 hT hTs (by omega) (fun e => ?_))
            cases e2 : rT.2 with
            | none => rw [e2] at e; cases e
            | some L1 =>
              have hL1 := hTg.1 L1 e2
              have hTm := (hT.2.2.2 L1 e2).1
              have hE4 := hE3 hL1.1
              have := hE4.2.2.2.2 (by omega)
              omega
      have L2 : ∀ (j : Nat) (z m2 q2 : Nat) (s2 : Bool) (d2 : Nat → Int32) (Lt : List Nat), z + j = n → PC (if s2 = true then some Lt else none) mm dd m2 d2 → (s2 = false → rT = (q2, none)) → (s2 = true → ss = true ∧ pp < q2 ∧ q2 ≤ n ∧ m2 + pp ≤ mm + q2 ∧ rT = pTl c (pF c n 2) j q2 Lt) → EvP (d + 11) 41 17 [(0, .ref (b)), (1, .int (nI (2))), (2, .int (nI (i))), (3, .int (nI (z)))] [] (PS I b m2 q2 s2 d2, J, K, h) (QV (PQ I J K h b r0 m cd)) := by
        intro j
        induction j with
        | zero =>
          intro z m2 q2 s2 d2 Lt hk
          intro h1 h2 h3
          refine p_iload_n k41_17 rfl ?_
          refine p_aload_n k41_18 rfl ?_
          refine p_getIv k41_19 hTS.1.1 f_8_44_8 ((PS_fo (by decide)).trans h9) ?_
          refine p_icmp_geN (tgt := 57) k41_22 (by decide) (by omega) (by omega) (fun _ => ?_) (fun c => False.elim (by omega))
          have hr := tl_end h2 (fun e => (h3 e).2.2.2.2) (Or.inl rfl)
          have hPC : PC rT.2 mm dd m2 d2 := by rw [hr]; exact h1
          have hc := C57 z m2 d2 hPC
          have e1 : rT.1 = q2 := by rw [hr]
          have e2 : rT.2.isSome = s2 := by rw [hr]; cases s2 <;> rfl
          rw [e1, e2] at hc
          exact hc
        | succ j ih =>
          intro z m2 q2 s2 d2 Lt hk
          intro h1 h2 h3
          refine p_iload_n k41_17 rfl ?_
          refine p_aload_n k41_18 rfl ?_
          refine p_getIv k41_19 hTS.1.1 f_8_44_8 ((PS_fo (by decide)).trans h9) ?_
          refine p_icmp_geN (tgt := 57) k41_22 (by decide) (by omega) (by omega) (fun c => False.elim (by omega)) (fun _ => ?_)
          refine p_aload_n k41_25 rfl ?_
          refine p_bipush (v := nI 38) k41_26 (by decide) ?_
          refine p_cV1i k41_28 hTS.1.1 c_8_109_8 rfl (Nat.le_of_ble_eq_true rfl) (C_isNext S P0 (fun e => (h3 e).2.2.1) (ch := 38) (by omega)) (fun x1 m1 hq => ?_)
          obtain ⟨rfl, rfl⟩ := hq
          refine p_if_eqB (tgt := 57) k41_31 (by decide) (fun cq31 => ?_) (fun cq31 => ?_)
          · skip
            have hr := tl_end h2 (fun e => (h3 e).2.2.2.2) (Or.inr cq31)
            have hPC : PC rT.2 mm dd m2 d2 := by rw [hr]; exact h1
            have hc := C57 z m2 d2 hPC
            have e1 : rT.1 = q2 := by rw [hr]
            have e2 : rT.2.isSome = s2 := by rw [hr]; cases s2 <;> rfl
            rw [e1, e2] at hc
            exact hc
          · skip
            obtain ⟨hs1, hc1⟩ := nx_t cq31
            have h4 := h3 hs1
            have hE4 := hE3 h4.1
            have hmp : mm ≤ pp := by
              by_cases e : i = 0
              · exact (hE4.2.2.2.1 e).2
              · have := hE4.2.2.2.2 e
                omega
            have hqn := hCT.lt (p := q2) (by omega)
            refine p_aload_n k41_34 rfl ?_
            refine p_bipush (v := nI 38) k41_35 (by decide) ?_
            refine p_cV1v k41_37 hTS.1.1 c_8_80_8 rfl (Nat.le_of_ble_eq_true rfl) (C_expect S P0 (fun e => (h3 e).2.2.1) (ch := 38) (by omega)) (fun m1 hq => ?_)
            obtain rfl := hq
            rw [ex_1 cq31, ex_2 cq31]
            refine p_aload_n k41_40 rfl ?_
            refine p_iload_n k41_41 rfl ?_
            refine p_cV1v k41_42 hTS.1.1 c_8_106_8 rfl (Nat.le_of_ble_eq_true rfl) (C_part2 S P0 (m := m2) (p := q2 + 1) (s := true) (cd := d2) h1.1 (fun _ => ⟨by omega, by omega⟩)) (fun m1 hq => ?_)
            obtain ⟨m4, cd4, rfl, hp4⟩ := hq
            have hg := rdg (pF_pg hCT 2 (by decide)) (s := true) (p := q2 + 1) (fun _ => by omega)
            refine p_aload_n k41_45 rfl ?_
            refine p_bipush (v := (-2)) k41_46 (by decide) ?_
            refine p_cV1v k41_48 hTS.1.1 c_8_113_8 rfl (Nat.le_of_ble_eq_true rfl) (C_addCode S P0 hp4.1 (-2)) (fun m1 hq => ?_)
            obtain rfl := hq
            refine p_iincN (ls1 := [(0, _), (1, _), (2, _), (3, _)]) k41_51 rfl rfl ?_
            refine p_goto (tgt := 17) k41_54 (by decide) ?_
            obtain ⟨t1, t2⟩ := tl_on (fun e => (h3 e).2.2.2.2) cq31
            have hlt := hp4.lt (p := q2 + 1) (fun L hL => (hg.1 L hL).2) (by omega) hn100
            have hPC := TL_out (L9 := []) h1 hp4 hs1 hlt
            refine ih (z + 1) _ _ _ _ (((rd true (pF c n 2) (q2 + 1)).2.map (fun L => Lt ++ L ++ [6001])).getD []) (by omega) hPC t1 (fun e => ?_)
            cases e2 : (rd true (pF c n 2) (q2 + 1)).2 with
            | none => rw [e2] at e; cases e
            | some L2 =>
              have hg2 := hg.1 L2 e2
              have hm4 := (hp4.2.2.2 L2 e2).1
              rw [if_pos (hlt e)]
              exact ⟨h4.1, by omega, hg2.2.2.1, by omega, t2 L2 e2⟩
      obtain ⟨t1, t2⟩ := tl_st (c := c) (f := (pF c n 2)) (n := n) (p := pp) (s := ss)
      rw [← hrT] at t1 t2
      refine L2 n 0 m1 _ _ cd1 ((rd ss (pF c n 2) pp).2.getD []) (by omega) (hp1.to opt_gd) t1 (fun e => ?_)
      obtain ⟨t3, t4⟩ := t2 e
      cases e2 : (rd ss (pF c n 2) pp).2 with
      | none => rw [e2] at e; cases e
      | some L2 =>
        have hg2 := hg1.1 L2 e2
        have hm4 := (hp1.2.2.2 L2 e2).1
        exact ⟨t3, hg2.2.1, hg2.2.2.1, by omega, by rw [t4, e2]⟩
  refine L n 0 m p s cd [] (by omega) (PC.refl hm).ite (fun e => by rw [hr0, rd_f e]) (fun e => ?_) (fun _ => rfl)
  have hl1 := hl e
  exact ⟨by omega, hl1.2.2, by rw [hr0, rd_t e]; exact cnt_0, fun _ => ⟨rfl, hl1.2.1⟩, fun e => absurd rfl e⟩

set_option maxRecDepth 100000 in
set_option maxHeartbeats 4000000 in
theorem C_part3 {d : Nat} {I : Nat → Nat → Int32} {J : Nat → Nat → Int64} {K : Nat → Nat → Option Nat} {h : List xSh} (S : St K h) {b n : Nat} {c : Nat → Nat} (P : PAR I K h b c n) {m p : Nat} {s : Bool} {cd : Nat → Int32} (hm : m ≤ 100) (hl : s = true → m ≤ p ∧ p ≤ n) : EvP (d + 12) 42 0 [(0, .ref (b)), (1, .int (nI (1)))] [] (PS I b m p s cd, J, K, h) (QV (PQ I J K h b (rd s (pF c n 3) p) m cd)) := by
  have P0 := P
  obtain ⟨⟨hTS, hb29, hK8⟩, h9, hn100, hCT, htx⟩ := P
  refine p_iload_n k42_0 rfl ?_
  refine p_iconst (v := nI 4) k42_1 (by decide) ?_
  refine p_icmp_geN (tgt := 35) k42_2 (by decide) (by omega) (by omega) (fun c => False.elim (by omega)) (fun _ => ?_)
  refine p_aload_n k42_5 rfl ?_
  refine p_bipush (v := nI 33) k42_6 (by decide) ?_
  refine p_cV1i k42_8 hTS.1.1 c_8_109_8 rfl (Nat.le_of_ble_eq_true rfl) (C_isNext S P0 (fun e => (hl e).2) (ch := 33) (by omega)) (fun x1 m1 hq => ?_)
  obtain ⟨rfl, rfl⟩ := hq
  refine p_if_eqB (tgt := 35) k42_11 (by decide) (fun cq11 => ?_) (fun cq11 => ?_)
  · skip
    refine p_iload_n k42_35 rfl ?_
    refine p_iconst (v := nI 4) k42_36 (by decide) ?_
    refine p_icmp_geN (tgt := 71) k42_37 (by decide) (by omega) (by omega) (fun c => False.elim (by omega)) (fun _ => ?_)
    refine p_aload_n k42_40 rfl ?_
    refine p_bipush (v := nI 40) k42_41 (by decide) ?_
    refine p_cV1i k42_43 hTS.1.1 c_8_109_8 rfl (Nat.le_of_ble_eq_true rfl) (C_isNext S P0 (fun e => (hl e).2) (ch := 40) (by omega)) (fun x1 m1 hq => ?_)
    obtain ⟨rfl, rfl⟩ := hq
    refine p_if_eqB (tgt := 71) k42_46 (by decide) (fun cq46 => ?_) (fun cq46 => ?_)
    · skip
      refine p_aload_n k42_71 rfl ?_
      refine p_ldcs (k := 0) k42_72 (by decide) ?_
      refine p_cV1i k42_74 hTS.1.1 c_8_90_8 rfl (Nat.le_of_ble_eq_true rfl) (C_oneOf S P0 (fun e => (hl e).2) (k := 0) (by decide)) (fun x1 m1 hq => ?_)
      obtain ⟨j1, p1, s1, rfl, rfl, h1⟩ := hq
      refine p_istore_n (ls' := [(0, _), (1, _), (2, _)]) k42_77 rfl ?_
      refine p_aload_n k42_78 rfl ?_
      refine p_ldcs (k := 1) k42_79 (by decide) ?_
      refine p_cV1i k42_81 hTS.1.1 c_8_90_8 rfl (Nat.le_of_ble_eq_true rfl) (C_oneOf S P0 (OFQ.le (by decide) hCT h1) (k := 1) (by decide)) (fun x1 m1 hq => ?_)
      obtain ⟨j2, p2, s2, rfl, rfl, h2⟩ := hq
      refine p_istore_n (ls' := [(0, _), (1, _), (2, _), (3, _)]) k42_84 rfl ?_
      refine p_aload_n k42_85 rfl ?_
      refine p_iload_n k42_86 rfl ?_
      refine p_iload_n k42_87 rfl ?_
      refine p_aload_n k42_88 rfl ?_
      refine p_cV0i k42_89 hTS.1.1 c_8_100_8 (Nat.le_of_ble_eq_true rfl) (C_parseNumber S P0 (OFQ.le (by decide) hCT h2)) (fun x1 m1 hq => ?_)
      obtain ⟨v, p3, s3, rfl, hv, rfl, h3⟩ := hq
      refine p_cS3i k42_92 c_8_118 rfl rfl rfl (Nat.le_of_ble_eq_true rfl) (C_codeOf S (f := j1) (g := j2) (v := v)) (fun x1 m1 hq => ?_)
      obtain ⟨rfl, rfl⟩ := hq
      refine p_cV1v k42_95 hTS.1.1 c_8_113_8 rfl (Nat.le_of_ble_eq_true rfl) (C_addCode S P0 hm (nI ((j1 * 3 + j2) * 100 + v))) (fun m1 hq => ?_)
      obtain rfl := hq
      refine p_return k42_98 rt_42 ?_
      rw [show rd s (pF c n 3) p = rd s (pTest c) p from pF_tst (by assumption) (by assumption)]
      have e9 := tst_eq h1 h2 h3
      rw [e9]
      refine PQ.mk rfl (by cases s3 <;> rfl) (PC.tst hm (ctN_t h1.1 h2.1 hv) (fun e => ?_))
      have hg := (rdg (pTest_pg hCT) (s := s) (p := p) (fun e => (hl e).2)).1 [1000 * j1 + 100 * j2 + v] (by rw [e9, e]; rfl)
      have := hl hg.1
      omega
    · skip
      obtain ⟨hs1, hc1⟩ := nx_t cq46
      have hl1 := hl hs1
      have hpn := hCT.lt (p := p) (by omega)
      refine p_aload_n k42_49 rfl ?_
      refine p_bipush (v := nI 40) k42_50 (by decide) ?_
      refine p_cV1v k42_52 hTS.1.1 c_8_80_8 rfl (Nat.le_of_ble_eq_true rfl) (C_expect S P0 (fun e => (hl e).2) (ch := 40) (by omega)) (fun m1 hq => ?_)
      obtain rfl := hq
      rw [ex_1 cq46, ex_2 cq46]
      refine p_aload_n k42_55 rfl ?_
      refine p_iload_n k42_56 rfl ?_
      refine p_iconst (v := nI 1) k42_57 (by decide) ?_
      refine p_iaddN k42_58 ?_
      refine p_cV1v k42_59 hTS.1.1 c_8_103_8 rfl (Nat.le_of_ble_eq_true rfl) (C_eith2 S P0 (m := m) (p := p + 1) (s := true) (cd := cd) hm (fun _ => ⟨by omega, by omega, by omega⟩)) (fun m1 hq => ?_)
      obtain ⟨m1, cd1, rfl, hp1⟩ := hq
      have hg := rdg (pE_pg hCT (by decide) (by decide) (pF_pg hCT 2 (by decide))) (s := true) (p := p + 1) (fun _ => by omega)
      refine p_aload_n k42_62 rfl ?_
      refine p_bipush (v := nI 41) k42_63 (by decide) ?_
      refine p_cV1v k42_65 hTS.1.1 c_8_80_8 rfl (Nat.le_of_ble_eq_true rfl) (C_expect S P0 (fun _ => hg.2 rfl) (ch := 41) (by omega)) (fun m1 hq => ?_)
      obtain rfl := hq
      refine p_goto (tgt := 98) k42_68 (by decide) ?_
      refine p_return k42_98 rt_42 ?_
      rw [pF_par cq46]
      exact PQ.mk rfl par_s hp1.ite
  · skip
    obtain ⟨hs1, hc1⟩ := nx_t cq11
    have hl1 := hl hs1
    have hpn := hCT.lt (p := p) (by omega)
    refine p_aload_n k42_14 rfl ?_
    refine p_bipush (v := nI 33) k42_15 (by decide) ?_
    refine p_cV1v k42_17 hTS.1.1 c_8_80_8 rfl (Nat.le_of_ble_eq_true rfl) (C_expect S P0 (fun e => (hl e).2) (ch := 33) (by omega)) (fun m1 hq => ?_)
    obtain rfl := hq
    rw [ex_1 cq11, ex_2 cq11]
    refine p_aload_n k42_20 rfl ?_
    refine p_iload_n k42_21 rfl ?_
    refine p_iconst (v := nI 1) k42_22 (by decide) ?_
    refine p_iaddN k42_23 ?_
    refine p_cV1v k42_24 hTS.1.1 c_8_106_8 rfl (Nat.le_of_ble_eq_true rfl) (C_part2 S P0 (m := m) (p := p + 1) (s := true) (cd := cd) hm (fun _ => ⟨by omega, by omega⟩)) (fun m1 hq => ?_)
    obtain ⟨m1, cd1, rfl, hp1⟩ := hq
    have hg := rdg (pF_pg hCT 2 (by decide)) (s := true) (p := p + 1) (fun _ => by omega)
    refine p_aload_n k42_27 rfl ?_
    refine p_iconst (v := (-1)) k42_28 (by decide) ?_
    refine p_cV1v k42_29 hTS.1.1 c_8_113_8 rfl (Nat.le_of_ble_eq_true rfl) (C_addCode S P0 hp1.1 (-1)) (fun m1 hq => ?_)
    obtain rfl := hq
    refine p_goto (tgt := 98) k42_32 (by decide) ?_
    refine p_return k42_98 rt_42 ?_
    rw [pF_not cq11]
    exact PQ.mk rfl Option.isSome_map (hp1.ac (k := 6000) rfl (hp1.lt (fun L hL => (hg.1 L hL).2) (by omega) hn100))

set_option maxRecDepth 100000 in
set_option maxHeartbeats 4000000 in
theorem C_eith3 {d : Nat} {I : Nat → Nat → Int32} {J : Nat → Nat → Int64} {K : Nat → Nat → Option Nat} {h : List xSh} (S : St K h) {b n : Nat} {c : Nat → Nat} (P : PAR I K h b c n) {m p : Nat} {s : Bool} {cd : Nat → Int32} (hm : m ≤ 100) (hl : s = true → 1 ≤ p ∧ m ≤ p ∧ p ≤ n) : EvP (d + 13) 41 0 [(0, .ref (b)), (1, .int (nI (1)))] [] (PS I b m p s cd, J, K, h) (QV (PQ I J K h b (rd s (pE c (pF c n 3) n) p) m cd)) := by
  have P0 := P
  obtain ⟨⟨hTS, hb29, hK8⟩, h9, hn100, hCT, htx⟩ := P
  refine p_iconst (v := nI 0) k41_0 (by decide) ?_
  refine p_istore_n (ls' := [(0, _), (1, _), (2, _)]) k41_1 rfl ?_
  obtain ⟨r0, hr0⟩ : ∃ X, X = rd s (pE c (pF c n 3) n) p := ⟨_, rfl⟩
  rw [← hr0]
  have L : ∀ (j : Nat) (i mm pp : Nat) (ss : Bool) (dd : Nat → Int32) (La : List Nat), i + j = n → PC (if ss = true then some La else none) m cd mm dd → (ss = false → r0 = (pp, none)) → (ss = true → i + 1 ≤ pp ∧ pp ≤ n ∧ r0 = cnt9 c (pF c n 3) n i pp La ∧ (i = 0 → La = [] ∧ mm ≤ pp) ∧ (i ≠ 0 → mm + 1 ≤ pp)) → (i = 0 → La = []) → EvP (d + 13) 41 2 [(0, .ref (b)), (1, .int (nI (1))), (2, .int (nI (i)))] [] (PS I b mm pp ss dd, J, K, h) (QV (PQ I J K h b r0 m cd)) := by
    intro j
    induction j with
    | zero =>
      intro i mm pp ss dd La hk
      intro hE1 hE2 hE3 hLa
      refine p_iload_n k41_2 rfl ?_
      refine p_aload_n k41_3 rfl ?_
      refine p_getIv k41_4 hTS.1.1 f_8_44_8 ((PS_fo (by decide)).trans h9) ?_
      refine p_icmp_geN (tgt := 89) k41_7 (by decide) (by omega) (by omega) (fun _ => ?_) (fun c => False.elim (by omega))
      refine p_return k41_89 rt_41 ?_
      cases hss : ss with
      | true => exact absurd (hE3 hss) (fun z => absurd z.1 (by have := z.2.1; omega))
      | false =>
        rw [hE2 hss]
        exact PQ.mk rfl rfl hE1.no
    | succ j ih =>
      intro i mm pp ss dd La hk
      intro hE1 hE2 hE3 hLa
      refine p_iload_n k41_2 rfl ?_
      refine p_aload_n k41_3 rfl ?_
      refine p_getIv k41_4 hTS.1.1 f_8_44_8 ((PS_fo (by decide)).trans h9) ?_
      refine p_icmp_geN (tgt := 89) k41_7 (by decide) (by omega) (by omega) (fun c => False.elim (by omega)) (fun _ => ?_)
      refine p_aload_n k41_10 rfl ?_
      refine p_iload_n k41_11 rfl ?_
      refine p_cV1v k41_12 hTS.1.1 c_8_106_8 rfl (Nat.le_of_ble_eq_true rfl) (C_part3 S P0 (m := mm) (p := pp) (s := ss) (cd := dd) hE1.1 (fun e => ⟨by have h := hE3 e; by_cases e0 : i = 0; exact (h.2.2.2.1 e0).2; have := h.2.2.2.2 e0; omega, (hE3 e).2.1⟩)) (fun m1 hq => ?_)
      obtain ⟨m1, cd1, rfl, hp1⟩ := hq
      have hg1 := rdg (pF_pg hCT 3 (by decide)) (s := ss) (p := pp) (fun e => (hE3 e).2.1)
      refine p_iconst (v := nI 0) k41_15 (by decide) ?_
      refine p_istore_n (ls' := [(0, _), (1, _), (2, _), (3, _)]) k41_16 rfl ?_
      have ih0 := ih
      obtain ⟨rT, hrT⟩ : ∃ X, X = rd ss (pT c (pF c n 3) n) pp := ⟨_, rfl⟩
      have hTg := rdg (pT_pg hCT (by decide) (by decide) (pF_pg hCT 3 (by decide))) (s := ss) (p := pp) (fun e => (hE3 e).2.1)
      rw [← hrT] at hTg
      have hTn : rT.2.isSome = true → rT.1 ≤ n := fun e => by
        cases e2 : rT.2 with
        | none => rw [e2] at e; cases e
        | some L => exact (hTg.1 L e2).2.2.1
      have hTs : ss = false → rT.2 = none := fun e => by rw [hrT]; exact rd_no e
      have C57 : ∀ (z3 mt : Nat) (ct : Nat → Int32), PC rT.2 mm dd mt ct → EvP (d + 13) 41 57 [(0, .ref (b)), (1, .int (nI (1))), (2, .int (nI (i))), (3, .int (nI (z3)))] [] (PS I b mt rT.1 rT.2.isSome ct, J, K, h) (QV (PQ I J K h b r0 m cd)) := by
        intro z3 mt ct hT
        refine p_iload_n k41_57 rfl ?_
        refine p_if_leN (tgt := 67) k41_58 (by decide) (by omega) (fun cq58 => ?_) (fun cq58 => ?_)
        · skip
          refine p_aload_n k41_67 rfl ?_
          refine p_bipush (v := nI 124) k41_68 (by decide) ?_
          refine p_cV1i k41_70 hTS.1.1 c_8_109_8 rfl (Nat.le_of_ble_eq_true rfl) (C_isNext S P0 hTn (ch := 124) (by omega)) (fun x1 m1 hq => ?_)
          obtain ⟨rfl, rfl⟩ := hq
          refine p_if_neB (tgt := 77) k41_73 (by decide) (fun cq73 => ?_) (fun cq73 => ?_)
          · skip
            refine p_aload_n k41_77 rfl ?_
            refine p_bipush (v := nI 124) k41_78 (by decide) ?_
            refine p_cV1v k41_80 hTS.1.1 c_8_80_8 rfl (Nat.le_of_ble_eq_true rfl) (C_expect S P0 hTn (ch := 124) (by omega)) (fun m1 hq => ?_)
            obtain rfl := hq
            rw [ex_1 cq73, ex_2 cq73]
            refine p_iincN (ls1 := [(0, _), (1, _), (2, _), (3, _)]) k41_83 rfl rfl ?_
            refine p_goto (tgt := 2) k41_86 (by decide) ?_
            refine p_drop [0, 1, 2] rfl ?_
            obtain ⟨L1, g1, g2, g3, g4⟩ := cnt_on (fun e => (hE3 e).2.2.1) (show i < n by omega) (by rw [← hrT]; exact cq73)
            rw [← hrT] at g2 g3 g4
            have hE4 := hE3 g1
            have hL1 := hTg.1 L1 g2
            have hTm := (hT.2.2.2 L1 g2).1
            have hTq := hCT.lt (p := rT.1) (by omega)
            have hPC := EI_out hE1 hT hTs (fun e => (hE4.2.2.2.1 e).1) (by omega)
            rw [g2] at hPC
            refine ih0 (i + 1) mt (rT.1 + 1) true ct (LLs i La L1) (by omega) hPC (fun e => by cases e) (fun _ => ⟨by omega, by omega, g4, fun e => absurd e (by omega), fun _ => ?_⟩) (fun e => absurd e (by omega))
            have := hE4.2.2.2.1 (by omega)
            omega
          · skip
            refine p_return k41_76 rt_41 ?_
            have hr := cnt_end hE2 (fun e => (hE3 e).2.2.1) (show i < n by omega) (by rw [← hrT]; exact cq73)
            rw [← hrT] at hr
            rw [hr]
            refine PQ.mk rfl Option.isSome_map (EI_out (i := i) hE1 hT hTs (fun e => ?_) (by omega))
            cases hss : ss with
            | false =>
              rw [hss] at hE1
              exact hLa e
            | true => exact ((hE3 hss).2.2.2.1 e).1
        · skip
          refine p_aload_n k41_61 rfl ?_
          refine p_bipush (v := (-3)) k41_62 (by decide) ?_
          refine p_cV1v k41_64 hTS.1.1 c_8_113_8 rfl (Nat.le_of_ble_eq_true rfl) (C_addCode S P0 hT.1 (-3)) (fun m1 hq => ?_)
          obtain rfl := hq
          refine p_aload_n k41_67 rfl ?_
          refine p_bipush (v := nI 124) k41_68 (by decide) ?_
          refine p_cV1i k41_70 hTS.1.1 c_8_109_8 rfl (Nat.le_of_ble_eq_true rfl) (C_isNext S P0 hTn (ch := 124) (by omega)) (fun x1 m1 hq => ?_)
          obtain ⟨rfl, rfl⟩ := hq
          refine p_if_neB (tgt := 77) k41_73 (by decide) (fun cq73 => ?_) (fun cq73 => ?_)
          · skip
            refine p_aload_n k41_77 rfl ?_
            refine p_bipush (v := nI 124) k41_78 (by decide) ?_
            refine p_cV1v k41_80 hTS.1.1 c_8_80_8 rfl (Nat.le_of_ble_eq_true rfl) (C_expect S P0 hTn (ch := 124) (by omega)) (fun m1 hq => ?_)
            obtain rfl := hq
            rw [ex_1 cq73, ex_2 cq73]
            refine p_iincN (ls1 := [(0, _), (1, _), (2, _), (3, _)]) k41_83 rfl rfl ?_
            refine p_goto (tgt := 2) k41_86 (by decide) ?_
            refine p_drop [0, 1, 2] rfl ?_
            obtain ⟨L1, g1, g2, g3, g4⟩ := cnt_on (fun e => (hE3 e).2.2.1) (show i < n by omega) (by rw [← hrT]; exact cq73)
            rw [← hrT] at g2 g3 g4
            have hE4 := hE3 g1
            have hL1 := hTg.1 L1 g2
            have hTm := (hT.2.2.2 L1 g2).1
            have hTq := hCT.lt (p := rT.1) (by omega)
            have hlt : mt < 100 := by have := hE4.2.2.2.2 (by omega); omega
            have hPC := EI_out1 hE1 hT hTs (by omega) (fun _ => hlt)
            rw [g2] at hPC
            refine ih0 (i + 1) (if mt < 100 then mt + 1 else mt) (rT.1 + 1) true (if mt < 100 then upc ct mt (-3) else ct) (LLs i La L1) (by omega) hPC (fun e => by cases e) (fun _ => ⟨by omega, by omega, g4, fun e => absurd e (by omega), fun _ => ?_⟩) (fun e => absurd e (by omega))
            rw [if_pos hlt]
            have := hE4.2.2.2.2 (by omega)
            omega
          · skip
            refine p_return k41_76 rt_41 ?_
            have hr := cnt_end hE2 (fun e => (hE3 e).2.2.1) (show i < n by omega) (by rw [← hrT]; exact cq73)
            rw [← hrT] at hr
            rw [hr]
            refine PQ.mk rfl Option.isSome_map (EI_out1 hE1 hT hTs (by omega) (fun e => ?_))
            cases e2 : rT.2 with
            | none => rw [e2] at e; cases e
            | some L1 =>
              have hL1 := hTg.1 L1 e2
              have hTm := (hT.2.2.2 L1 e2).1
              have hE4 := hE3 hL1.1
              have := hE4.2.2.2.2 (by omega)
              omega
      have L2 : ∀ (j : Nat) (z m2 q2 : Nat) (s2 : Bool) (d2 : Nat → Int32) (Lt : List Nat), z + j = n → PC (if s2 = true then some Lt else none) mm dd m2 d2 → (s2 = false → rT = (q2, none)) → (s2 = true → ss = true ∧ pp < q2 ∧ q2 ≤ n ∧ m2 + pp ≤ mm + q2 ∧ rT = pTl c (pF c n 3) j q2 Lt) → EvP (d + 13) 41 17 [(0, .ref (b)), (1, .int (nI (1))), (2, .int (nI (i))), (3, .int (nI (z)))] [] (PS I b m2 q2 s2 d2, J, K, h) (QV (PQ I J K h b r0 m cd)) := by
        intro j
        induction j with
        | zero =>
          intro z m2 q2 s2 d2 Lt hk
          intro h1 h2 h3
          refine p_iload_n k41_17 rfl ?_
          refine p_aload_n k41_18 rfl ?_
          refine p_getIv k41_19 hTS.1.1 f_8_44_8 ((PS_fo (by decide)).trans h9) ?_
          refine p_icmp_geN (tgt := 57) k41_22 (by decide) (by omega) (by omega) (fun _ => ?_) (fun c => False.elim (by omega))
          have hr := tl_end h2 (fun e => (h3 e).2.2.2.2) (Or.inl rfl)
          have hPC : PC rT.2 mm dd m2 d2 := by rw [hr]; exact h1
          have hc := C57 z m2 d2 hPC
          have e1 : rT.1 = q2 := by rw [hr]
          have e2 : rT.2.isSome = s2 := by rw [hr]; cases s2 <;> rfl
          rw [e1, e2] at hc
          exact hc
        | succ j ih =>
          intro z m2 q2 s2 d2 Lt hk
          intro h1 h2 h3
          refine p_iload_n k41_17 rfl ?_
          refine p_aload_n k41_18 rfl ?_
          refine p_getIv k41_19 hTS.1.1 f_8_44_8 ((PS_fo (by decide)).trans h9) ?_
          refine p_icmp_geN (tgt := 57) k41_22 (by decide) (by omega) (by omega) (fun c => False.elim (by omega)) (fun _ => ?_)
          refine p_aload_n k41_25 rfl ?_
          refine p_bipush (v := nI 38) k41_26 (by decide) ?_
          refine p_cV1i k41_28 hTS.1.1 c_8_109_8 rfl (Nat.le_of_ble_eq_true rfl) (C_isNext S P0 (fun e => (h3 e).2.2.1) (ch := 38) (by omega)) (fun x1 m1 hq => ?_)
          obtain ⟨rfl, rfl⟩ := hq
          refine p_if_eqB (tgt := 57) k41_31 (by decide) (fun cq31 => ?_) (fun cq31 => ?_)
          · skip
            have hr := tl_end h2 (fun e => (h3 e).2.2.2.2) (Or.inr cq31)
            have hPC : PC rT.2 mm dd m2 d2 := by rw [hr]; exact h1
            have hc := C57 z m2 d2 hPC
            have e1 : rT.1 = q2 := by rw [hr]
            have e2 : rT.2.isSome = s2 := by rw [hr]; cases s2 <;> rfl
            rw [e1, e2] at hc
            exact hc
          · skip
            obtain ⟨hs1, hc1⟩ := nx_t cq31
            have h4 := h3 hs1
            have hE4 := hE3 h4.1
            have hmp : mm ≤ pp := by
              by_cases e : i = 0
              · exact (hE4.2.2.2.1 e).2
              · have := hE4.2.2.2.2 e
                omega
            have hqn := hCT.lt (p := q2) (by omega)
            refine p_aload_n k41_34 rfl ?_
            refine p_bipush (v := nI 38) k41_35 (by decide) ?_
            refine p_cV1v k41_37 hTS.1.1 c_8_80_8 rfl (Nat.le_of_ble_eq_true rfl) (C_expect S P0 (fun e => (h3 e).2.2.1) (ch := 38) (by omega)) (fun m1 hq => ?_)
            obtain rfl := hq
            rw [ex_1 cq31, ex_2 cq31]
            refine p_aload_n k41_40 rfl ?_
            refine p_iload_n k41_41 rfl ?_
            refine p_cV1v k41_42 hTS.1.1 c_8_106_8 rfl (Nat.le_of_ble_eq_true rfl) (C_part3 S P0 (m := m2) (p := q2 + 1) (s := true) (cd := d2) h1.1 (fun _ => ⟨by omega, by omega⟩)) (fun m1 hq => ?_)
            obtain ⟨m4, cd4, rfl, hp4⟩ := hq
            have hg := rdg (pF_pg hCT 3 (by decide)) (s := true) (p := q2 + 1) (fun _ => by omega)
            refine p_aload_n k41_45 rfl ?_
            refine p_bipush (v := (-2)) k41_46 (by decide) ?_
            refine p_cV1v k41_48 hTS.1.1 c_8_113_8 rfl (Nat.le_of_ble_eq_true rfl) (C_addCode S P0 hp4.1 (-2)) (fun m1 hq => ?_)
            obtain rfl := hq
            refine p_iincN (ls1 := [(0, _), (1, _), (2, _), (3, _)]) k41_51 rfl rfl ?_
            refine p_goto (tgt := 17) k41_54 (by decide) ?_
            obtain ⟨t1, t2⟩ := tl_on (fun e => (h3 e).2.2.2.2) cq31
            have hlt := hp4.lt (p := q2 + 1) (fun L hL => (hg.1 L hL).2) (by omega) hn100
            have hPC := TL_out (L9 := []) h1 hp4 hs1 hlt
            refine ih (z + 1) _ _ _ _ (((rd true (pF c n 3) (q2 + 1)).2.map (fun L => Lt ++ L ++ [6001])).getD []) (by omega) hPC t1 (fun e => ?_)
            cases e2 : (rd true (pF c n 3) (q2 + 1)).2 with
            | none => rw [e2] at e; cases e
            | some L2 =>
              have hg2 := hg.1 L2 e2
              have hm4 := (hp4.2.2.2 L2 e2).1
              rw [if_pos (hlt e)]
              exact ⟨h4.1, by omega, hg2.2.2.1, by omega, t2 L2 e2⟩
      obtain ⟨t1, t2⟩ := tl_st (c := c) (f := (pF c n 3)) (n := n) (p := pp) (s := ss)
      rw [← hrT] at t1 t2
      refine L2 n 0 m1 _ _ cd1 ((rd ss (pF c n 3) pp).2.getD []) (by omega) (hp1.to opt_gd) t1 (fun e => ?_)
      obtain ⟨t3, t4⟩ := t2 e
      cases e2 : (rd ss (pF c n 3) pp).2 with
      | none => rw [e2] at e; cases e
      | some L2 =>
        have hg2 := hg1.1 L2 e2
        have hm4 := (hp1.2.2.2 L2 e2).1
        exact ⟨t3, hg2.2.1, hg2.2.2.1, by omega, by rw [t4, e2]⟩
  refine L n 0 m p s cd [] (by omega) (PC.refl hm).ite (fun e => by rw [hr0, rd_f e]) (fun e => ?_) (fun _ => rfl)
  have hl1 := hl e
  exact ⟨by omega, hl1.2.2, by rw [hr0, rd_t e]; exact cnt_0, fun _ => ⟨rfl, hl1.2.1⟩, fun e => absurd rfl e⟩

set_option maxRecDepth 100000 in
set_option maxHeartbeats 4000000 in
theorem C_part4 {d : Nat} {I : Nat → Nat → Int32} {J : Nat → Nat → Int64} {K : Nat → Nat → Option Nat} {h : List xSh} (S : St K h) {b n : Nat} {c : Nat → Nat} (P : PAR I K h b c n) {m p : Nat} {s : Bool} {cd : Nat → Int32} (hm : m ≤ 100) (hl : s = true → m ≤ p ∧ p ≤ n) : EvP (d + 14) 42 0 [(0, .ref (b)), (1, .int (nI (0)))] [] (PS I b m p s cd, J, K, h) (QV (PQ I J K h b (rd s (pF c n 4) p) m cd)) := by
  have P0 := P
  obtain ⟨⟨hTS, hb29, hK8⟩, h9, hn100, hCT, htx⟩ := P
  refine p_iload_n k42_0 rfl ?_
  refine p_iconst (v := nI 4) k42_1 (by decide) ?_
  refine p_icmp_geN (tgt := 35) k42_2 (by decide) (by omega) (by omega) (fun c => False.elim (by omega)) (fun _ => ?_)
  refine p_aload_n k42_5 rfl ?_
  refine p_bipush (v := nI 33) k42_6 (by decide) ?_
  refine p_cV1i k42_8 hTS.1.1 c_8_109_8 rfl (Nat.le_of_ble_eq_true rfl) (C_isNext S P0 (fun e => (hl e).2) (ch := 33) (by omega)) (fun x1 m1 hq => ?_)
  obtain ⟨rfl, rfl⟩ := hq
  refine p_if_eqB (tgt := 35) k42_11 (by decide) (fun cq11 => ?_) (fun cq11 => ?_)
  · skip
    refine p_iload_n k42_35 rfl ?_
    refine p_iconst (v := nI 4) k42_36 (by decide) ?_
    refine p_icmp_geN (tgt := 71) k42_37 (by decide) (by omega) (by omega) (fun c => False.elim (by omega)) (fun _ => ?_)
    refine p_aload_n k42_40 rfl ?_
    refine p_bipush (v := nI 40) k42_41 (by decide) ?_
    refine p_cV1i k42_43 hTS.1.1 c_8_109_8 rfl (Nat.le_of_ble_eq_true rfl) (C_isNext S P0 (fun e => (hl e).2) (ch := 40) (by omega)) (fun x1 m1 hq => ?_)
    obtain ⟨rfl, rfl⟩ := hq
    refine p_if_eqB (tgt := 71) k42_46 (by decide) (fun cq46 => ?_) (fun cq46 => ?_)
    · skip
      refine p_aload_n k42_71 rfl ?_
      refine p_ldcs (k := 0) k42_72 (by decide) ?_
      refine p_cV1i k42_74 hTS.1.1 c_8_90_8 rfl (Nat.le_of_ble_eq_true rfl) (C_oneOf S P0 (fun e => (hl e).2) (k := 0) (by decide)) (fun x1 m1 hq => ?_)
      obtain ⟨j1, p1, s1, rfl, rfl, h1⟩ := hq
      refine p_istore_n (ls' := [(0, _), (1, _), (2, _)]) k42_77 rfl ?_
      refine p_aload_n k42_78 rfl ?_
      refine p_ldcs (k := 1) k42_79 (by decide) ?_
      refine p_cV1i k42_81 hTS.1.1 c_8_90_8 rfl (Nat.le_of_ble_eq_true rfl) (C_oneOf S P0 (OFQ.le (by decide) hCT h1) (k := 1) (by decide)) (fun x1 m1 hq => ?_)
      obtain ⟨j2, p2, s2, rfl, rfl, h2⟩ := hq
      refine p_istore_n (ls' := [(0, _), (1, _), (2, _), (3, _)]) k42_84 rfl ?_
      refine p_aload_n k42_85 rfl ?_
      refine p_iload_n k42_86 rfl ?_
      refine p_iload_n k42_87 rfl ?_
      refine p_aload_n k42_88 rfl ?_
      refine p_cV0i k42_89 hTS.1.1 c_8_100_8 (Nat.le_of_ble_eq_true rfl) (C_parseNumber S P0 (OFQ.le (by decide) hCT h2)) (fun x1 m1 hq => ?_)
      obtain ⟨v, p3, s3, rfl, hv, rfl, h3⟩ := hq
      refine p_cS3i k42_92 c_8_118 rfl rfl rfl (Nat.le_of_ble_eq_true rfl) (C_codeOf S (f := j1) (g := j2) (v := v)) (fun x1 m1 hq => ?_)
      obtain ⟨rfl, rfl⟩ := hq
      refine p_cV1v k42_95 hTS.1.1 c_8_113_8 rfl (Nat.le_of_ble_eq_true rfl) (C_addCode S P0 hm (nI ((j1 * 3 + j2) * 100 + v))) (fun m1 hq => ?_)
      obtain rfl := hq
      refine p_return k42_98 rt_42 ?_
      rw [show rd s (pF c n 4) p = rd s (pTest c) p from pF_tst (by assumption) (by assumption)]
      have e9 := tst_eq h1 h2 h3
      rw [e9]
      refine PQ.mk rfl (by cases s3 <;> rfl) (PC.tst hm (ctN_t h1.1 h2.1 hv) (fun e => ?_))
      have hg := (rdg (pTest_pg hCT) (s := s) (p := p) (fun e => (hl e).2)).1 [1000 * j1 + 100 * j2 + v] (by rw [e9, e]; rfl)
      have := hl hg.1
      omega
    · skip
      obtain ⟨hs1, hc1⟩ := nx_t cq46
      have hl1 := hl hs1
      have hpn := hCT.lt (p := p) (by omega)
      refine p_aload_n k42_49 rfl ?_
      refine p_bipush (v := nI 40) k42_50 (by decide) ?_
      refine p_cV1v k42_52 hTS.1.1 c_8_80_8 rfl (Nat.le_of_ble_eq_true rfl) (C_expect S P0 (fun e => (hl e).2) (ch := 40) (by omega)) (fun m1 hq => ?_)
      obtain rfl := hq
      rw [ex_1 cq46, ex_2 cq46]
      refine p_aload_n k42_55 rfl ?_
      refine p_iload_n k42_56 rfl ?_
      refine p_iconst (v := nI 1) k42_57 (by decide) ?_
      refine p_iaddN k42_58 ?_
      refine p_cV1v k42_59 hTS.1.1 c_8_103_8 rfl (Nat.le_of_ble_eq_true rfl) (C_eith3 S P0 (m := m) (p := p + 1) (s := true) (cd := cd) hm (fun _ => ⟨by omega, by omega, by omega⟩)) (fun m1 hq => ?_)
      obtain ⟨m1, cd1, rfl, hp1⟩ := hq
      have hg := rdg (pE_pg hCT (by decide) (by decide) (pF_pg hCT 3 (by decide))) (s := true) (p := p + 1) (fun _ => by omega)
      refine p_aload_n k42_62 rfl ?_
      refine p_bipush (v := nI 41) k42_63 (by decide) ?_
      refine p_cV1v k42_65 hTS.1.1 c_8_80_8 rfl (Nat.le_of_ble_eq_true rfl) (C_expect S P0 (fun _ => hg.2 rfl) (ch := 41) (by omega)) (fun m1 hq => ?_)
      obtain rfl := hq
      refine p_goto (tgt := 98) k42_68 (by decide) ?_
      refine p_return k42_98 rt_42 ?_
      rw [pF_par cq46]
      exact PQ.mk rfl par_s hp1.ite
  · skip
    obtain ⟨hs1, hc1⟩ := nx_t cq11
    have hl1 := hl hs1
    have hpn := hCT.lt (p := p) (by omega)
    refine p_aload_n k42_14 rfl ?_
    refine p_bipush (v := nI 33) k42_15 (by decide) ?_
    refine p_cV1v k42_17 hTS.1.1 c_8_80_8 rfl (Nat.le_of_ble_eq_true rfl) (C_expect S P0 (fun e => (hl e).2) (ch := 33) (by omega)) (fun m1 hq => ?_)
    obtain rfl := hq
    rw [ex_1 cq11, ex_2 cq11]
    refine p_aload_n k42_20 rfl ?_
    refine p_iload_n k42_21 rfl ?_
    refine p_iconst (v := nI 1) k42_22 (by decide) ?_
    refine p_iaddN k42_23 ?_
    refine p_cV1v k42_24 hTS.1.1 c_8_106_8 rfl (Nat.le_of_ble_eq_true rfl) (C_part3 S P0 (m := m) (p := p + 1) (s := true) (cd := cd) hm (fun _ => ⟨by omega, by omega⟩)) (fun m1 hq => ?_)
    obtain ⟨m1, cd1, rfl, hp1⟩ := hq
    have hg := rdg (pF_pg hCT 3 (by decide)) (s := true) (p := p + 1) (fun _ => by omega)
    refine p_aload_n k42_27 rfl ?_
    refine p_iconst (v := (-1)) k42_28 (by decide) ?_
    refine p_cV1v k42_29 hTS.1.1 c_8_113_8 rfl (Nat.le_of_ble_eq_true rfl) (C_addCode S P0 hp1.1 (-1)) (fun m1 hq => ?_)
    obtain rfl := hq
    refine p_goto (tgt := 98) k42_32 (by decide) ?_
    refine p_return k42_98 rt_42 ?_
    rw [pF_not cq11]
    exact PQ.mk rfl Option.isSome_map (hp1.ac (k := 6000) rfl (hp1.lt (fun L hL => (hg.1 L hL).2) (by omega) hn100))

set_option maxRecDepth 100000 in
set_option maxHeartbeats 4000000 in
theorem C_eith4 {d : Nat} {I : Nat → Nat → Int32} {J : Nat → Nat → Int64} {K : Nat → Nat → Option Nat} {h : List xSh} (S : St K h) {b n : Nat} {c : Nat → Nat} (P : PAR I K h b c n) {m p : Nat} {s : Bool} {cd : Nat → Int32} (hm : m ≤ 100) (hl : s = true → 1 ≤ p ∧ m ≤ p ∧ p ≤ n) : EvP (d + 15) 41 0 [(0, .ref (b)), (1, .int (nI (0)))] [] (PS I b m p s cd, J, K, h) (QV (PQ I J K h b (rd s (pE c (pF c n 4) n) p) m cd)) := by
  have P0 := P
  obtain ⟨⟨hTS, hb29, hK8⟩, h9, hn100, hCT, htx⟩ := P
  refine p_iconst (v := nI 0) k41_0 (by decide) ?_
  refine p_istore_n (ls' := [(0, _), (1, _), (2, _)]) k41_1 rfl ?_
  obtain ⟨r0, hr0⟩ : ∃ X, X = rd s (pE c (pF c n 4) n) p := ⟨_, rfl⟩
  rw [← hr0]
  have L : ∀ (j : Nat) (i mm pp : Nat) (ss : Bool) (dd : Nat → Int32) (La : List Nat), i + j = n → PC (if ss = true then some La else none) m cd mm dd → (ss = false → r0 = (pp, none)) → (ss = true → i + 1 ≤ pp ∧ pp ≤ n ∧ r0 = cnt9 c (pF c n 4) n i pp La ∧ (i = 0 → La = [] ∧ mm ≤ pp) ∧ (i ≠ 0 → mm + 1 ≤ pp)) → (i = 0 → La = []) → EvP (d + 15) 41 2 [(0, .ref (b)), (1, .int (nI (0))), (2, .int (nI (i)))] [] (PS I b mm pp ss dd, J, K, h) (QV (PQ I J K h b r0 m cd)) := by
    intro j
    induction j with
    | zero =>
      intro i mm pp ss dd La hk
      intro hE1 hE2 hE3 hLa
      refine p_iload_n k41_2 rfl ?_
      refine p_aload_n k41_3 rfl ?_
      refine p_getIv k41_4 hTS.1.1 f_8_44_8 ((PS_fo (by decide)).trans h9) ?_
      refine p_icmp_geN (tgt := 89) k41_7 (by decide) (by omega) (by omega) (fun _ => ?_) (fun c => False.elim (by omega))
      refine p_return k41_89 rt_41 ?_
      cases hss : ss with
      | true => exact absurd (hE3 hss) (fun z => absurd z.1 (by have := z.2.1; omega))
      | false =>
        rw [hE2 hss]
        exact PQ.mk rfl rfl hE1.no
    | succ j ih =>
      intro i mm pp ss dd La hk
      intro hE1 hE2 hE3 hLa
      refine p_iload_n k41_2 rfl ?_
      refine p_aload_n k41_3 rfl ?_
      refine p_getIv k41_4 hTS.1.1 f_8_44_8 ((PS_fo (by decide)).trans h9) ?_
      refine p_icmp_geN (tgt := 89) k41_7 (by decide) (by omega) (by omega) (fun c => False.elim (by omega)) (fun _ => ?_)
      refine p_aload_n k41_10 rfl ?_
      refine p_iload_n k41_11 rfl ?_
      refine p_cV1v k41_12 hTS.1.1 c_8_106_8 rfl (Nat.le_of_ble_eq_true rfl) (C_part4 S P0 (m := mm) (p := pp) (s := ss) (cd := dd) hE1.1 (fun e => ⟨by have h := hE3 e; by_cases e0 : i = 0; exact (h.2.2.2.1 e0).2; have := h.2.2.2.2 e0; omega, (hE3 e).2.1⟩)) (fun m1 hq => ?_)
      obtain ⟨m1, cd1, rfl, hp1⟩ := hq
      have hg1 := rdg (pF_pg hCT 4 (by decide)) (s := ss) (p := pp) (fun e => (hE3 e).2.1)
      refine p_iconst (v := nI 0) k41_15 (by decide) ?_
      refine p_istore_n (ls' := [(0, _), (1, _), (2, _), (3, _)]) k41_16 rfl ?_
      have ih0 := ih
      obtain ⟨rT, hrT⟩ : ∃ X, X = rd ss (pT c (pF c n 4) n) pp := ⟨_, rfl⟩
      have hTg := rdg (pT_pg hCT (by decide) (by decide) (pF_pg hCT 4 (by decide))) (s := ss) (p := pp) (fun e => (hE3 e).2.1)
      rw [← hrT] at hTg
      have hTn : rT.2.isSome = true → rT.1 ≤ n := fun e => by
        cases e2 : rT.2 with
        | none => rw [e2] at e; cases e
        | some L => exact (hTg.1 L e2).2.2.1
      have hTs : ss = false → rT.2 = none := fun e => by rw [hrT]; exact rd_no e
      have C57 : ∀ (z3 mt : Nat) (ct : Nat → Int32), PC rT.2 mm dd mt ct → EvP (d + 15) 41 57 [(0, .ref (b)), (1, .int (nI (0))), (2, .int (nI (i))), (3, .int (nI (z3)))] [] (PS I b mt rT.1 rT.2.isSome ct, J, K, h) (QV (PQ I J K h b r0 m cd)) := by
        intro z3 mt ct hT
        refine p_iload_n k41_57 rfl ?_
        refine p_if_leN (tgt := 67) k41_58 (by decide) (by omega) (fun cq58 => ?_) (fun cq58 => ?_)
        · skip
          refine p_aload_n k41_67 rfl ?_
          refine p_bipush (v := nI 124) k41_68 (by decide) ?_
          refine p_cV1i k41_70 hTS.1.1 c_8_109_8 rfl (Nat.le_of_ble_eq_true rfl) (C_isNext S P0 hTn (ch := 124) (by omega)) (fun x1 m1 hq => ?_)
          obtain ⟨rfl, rfl⟩ := hq
          refine p_if_neB (tgt := 77) k41_73 (by decide) (fun cq73 => ?_) (fun cq73 => ?_)
          · skip
            refine p_aload_n k41_77 rfl ?_
            refine p_bipush (v := nI 124) k41_78 (by decide) ?_
            refine p_cV1v k41_80 hTS.1.1 c_8_80_8 rfl (Nat.le_of_ble_eq_true rfl) (C_expect S P0 hTn (ch := 124) (by omega)) (fun m1 hq => ?_)
            obtain rfl := hq
            rw [ex_1 cq73, ex_2 cq73]
            refine p_iincN (ls1 := [(0, _), (1, _), (2, _), (3, _)]) k41_83 rfl rfl ?_
            refine p_goto (tgt := 2) k41_86 (by decide) ?_
            refine p_drop [0, 1, 2] rfl ?_
            obtain ⟨L1, g1, g2, g3, g4⟩ := cnt_on (fun e => (hE3 e).2.2.1) (show i < n by omega) (by rw [← hrT]; exact cq73)
            rw [← hrT] at g2 g3 g4
            have hE4 := hE3 g1
            have hL1 := hTg.1 L1 g2
            have hTm := (hT.2.2.2 L1 g2).1
            have hTq := hCT.lt (p := rT.1) (by omega)
            have hPC := EI_out hE1 hT hTs (fun e => (hE4.2.2.2.1 e).1) (by omega)
            rw [g2] at hPC
            refine ih0 (i + 1) mt (rT.1 + 1) true ct (LLs i La L1) (by omega) hPC (fun e => by cases e) (fun _ => ⟨by omega, by omega, g4, fun e => absurd e (by omega), fun _ => ?_⟩) (fun e => absurd e (by omega))
            have := hE4.2.2.2.1 (by omega)
            omega
          · skip
            refine p_return k41_76 rt_41 ?_
            have hr := cnt_end hE2 (fun e => (hE3 e).2.2.1) (show i < n by omega) (by rw [← hrT]; exact cq73)
            rw [← hrT] at hr
            rw [hr]
            refine PQ.mk rfl Option.isSome_map (EI_out (i := i) hE1 hT hTs (fun e => ?_) (by omega))
            cases hss : ss with
            | false =>
              rw [hss] at hE1
              exact hLa e
            | true => exact ((hE3 hss).2.2.2.1 e).1
        · skip
          refine p_aload_n k41_61 rfl ?_
          refine p_bipush (v := (-3)) k41_62 (by decide) ?_
          refine p_cV1v k41_64 hTS.1.1 c_8_113_8 rfl (Nat.le_of_ble_eq_true rfl) (C_addCode S P0 hT.1 (-3)) (fun m1 hq => ?_)
          obtain rfl := hq
          refine p_aload_n k41_67 rfl ?_
          refine p_bipush (v := nI 124) k41_68 (by decide) ?_
          refine p_cV1i k41_70 hTS.1.1 c_8_109_8 rfl (Nat.le_of_ble_eq_true rfl) (C_isNext S P0 hTn (ch := 124) (by omega)) (fun x1 m1 hq => ?_)
          obtain ⟨rfl, rfl⟩ := hq
          refine p_if_neB (tgt := 77) k41_73 (by decide) (fun cq73 => ?_) (fun cq73 => ?_)
          · skip
            refine p_aload_n k41_77 rfl ?_
            refine p_bipush (v := nI 124) k41_78 (by decide) ?_
            refine p_cV1v k41_80 hTS.1.1 c_8_80_8 rfl (Nat.le_of_ble_eq_true rfl) (C_expect S P0 hTn (ch := 124) (by omega)) (fun m1 hq => ?_)
            obtain rfl := hq
            rw [ex_1 cq73, ex_2 cq73]
            refine p_iincN (ls1 := [(0, _), (1, _), (2, _), (3, _)]) k41_83 rfl rfl ?_
            refine p_goto (tgt := 2) k41_86 (by decide) ?_
            refine p_drop [0, 1, 2] rfl ?_
            obtain ⟨L1, g1, g2, g3, g4⟩ := cnt_on (fun e => (hE3 e).2.2.1) (show i < n by omega) (by rw [← hrT]; exact cq73)
            rw [← hrT] at g2 g3 g4
            have hE4 := hE3 g1
            have hL1 := hTg.1 L1 g2
            have hTm := (hT.2.2.2 L1 g2).1
            have hTq := hCT.lt (p := rT.1) (by omega)
            have hlt : mt < 100 := by have := hE4.2.2.2.2 (by omega); omega
            have hPC := EI_out1 hE1 hT hTs (by omega) (fun _ => hlt)
            rw [g2] at hPC
            refine ih0 (i + 1) (if mt < 100 then mt + 1 else mt) (rT.1 + 1) true (if mt < 100 then upc ct mt (-3) else ct) (LLs i La L1) (by omega) hPC (fun e => by cases e) (fun _ => ⟨by omega, by omega, g4, fun e => absurd e (by omega), fun _ => ?_⟩) (fun e => absurd e (by omega))
            rw [if_pos hlt]
            have := hE4.2.2.2.2 (by omega)
            omega
          · skip
            refine p_return k41_76 rt_41 ?_
            have hr := cnt_end hE2 (fun e => (hE3 e).2.2.1) (show i < n by omega) (by rw [← hrT]; exact cq73)
            rw [← hrT] at hr
            rw [hr]
            refine PQ.mk rfl Option.isSome_map (EI_out1 hE1 hT hTs (by omega) (fun e => ?_))
            cases e2 : rT.2 with
            | none => rw [e2] at e; cases e
            | some L1 =>
              have hL1 := hTg.1 L1 e2
              have hTm := (hT.2.2.2 L1 e2).1
              have hE4 := hE3 hL1.1
              have := hE4.2.2.2.2 (by omega)
              omega
      have L2 : ∀ (j : Nat) (z m2 q2 : Nat) (s2 : Bool) (d2 : Nat → Int32) (Lt : List Nat), z + j = n → PC (if s2 = true then some Lt else none) mm dd m2 d2 → (s2 = false → rT = (q2, none)) → (s2 = true → ss = true ∧ pp < q2 ∧ q2 ≤ n ∧ m2 + pp ≤ mm + q2 ∧ rT = pTl c (pF c n 4) j q2 Lt) → EvP (d + 15) 41 17 [(0, .ref (b)), (1, .int (nI (0))), (2, .int (nI (i))), (3, .int (nI (z)))] [] (PS I b m2 q2 s2 d2, J, K, h) (QV (PQ I J K h b r0 m cd)) := by
        intro j
        induction j with
        | zero =>
          intro z m2 q2 s2 d2 Lt hk
          intro h1 h2 h3
          refine p_iload_n k41_17 rfl ?_
          refine p_aload_n k41_18 rfl ?_
          refine p_getIv k41_19 hTS.1.1 f_8_44_8 ((PS_fo (by decide)).trans h9) ?_
          refine p_icmp_geN (tgt := 57) k41_22 (by decide) (by omega) (by omega) (fun _ => ?_) (fun c => False.elim (by omega))
          have hr := tl_end h2 (fun e => (h3 e).2.2.2.2) (Or.inl rfl)
          have hPC : PC rT.2 mm dd m2 d2 := by rw [hr]; exact h1
          have hc := C57 z m2 d2 hPC
          have e1 : rT.1 = q2 := by rw [hr]
          have e2 : rT.2.isSome = s2 := by rw [hr]; cases s2 <;> rfl
          rw [e1, e2] at hc
          exact hc
        | succ j ih =>
          intro z m2 q2 s2 d2 Lt hk
          intro h1 h2 h3
          refine p_iload_n k41_17 rfl ?_
          refine p_aload_n k41_18 rfl ?_
          refine p_getIv k41_19 hTS.1.1 f_8_44_8 ((PS_fo (by decide)).trans h9) ?_
          refine p_icmp_geN (tgt := 57) k41_22 (by decide) (by omega) (by omega) (fun c => False.elim (by omega)) (fun _ => ?_)
          refine p_aload_n k41_25 rfl ?_
          refine p_bipush (v := nI 38) k41_26 (by decide) ?_
          refine p_cV1i k41_28 hTS.1.1 c_8_109_8 rfl (Nat.le_of_ble_eq_true rfl) (C_isNext S P0 (fun e => (h3 e).2.2.1) (ch := 38) (by omega)) (fun x1 m1 hq => ?_)
          obtain ⟨rfl, rfl⟩ := hq
          refine p_if_eqB (tgt := 57) k41_31 (by decide) (fun cq31 => ?_) (fun cq31 => ?_)
          · skip
            have hr := tl_end h2 (fun e => (h3 e).2.2.2.2) (Or.inr cq31)
            have hPC : PC rT.2 mm dd m2 d2 := by rw [hr]; exact h1
            have hc := C57 z m2 d2 hPC
            have e1 : rT.1 = q2 := by rw [hr]
            have e2 : rT.2.isSome = s2 := by rw [hr]; cases s2 <;> rfl
            rw [e1, e2] at hc
            exact hc
          · skip
            obtain ⟨hs1, hc1⟩ := nx_t cq31
            have h4 := h3 hs1
            have hE4 := hE3 h4.1
            have hmp : mm ≤ pp := by
              by_cases e : i = 0
              · exact (hE4.2.2.2.1 e).2
              · have := hE4.2.2.2.2 e
                omega
            have hqn := hCT.lt (p := q2) (by omega)
            refine p_aload_n k41_34 rfl ?_
            refine p_bipush (v := nI 38) k41_35 (by decide) ?_
            refine p_cV1v k41_37 hTS.1.1 c_8_80_8 rfl (Nat.le_of_ble_eq_true rfl) (C_expect S P0 (fun e => (h3 e).2.2.1) (ch := 38) (by omega)) (fun m1 hq => ?_)
            obtain rfl := hq
            rw [ex_1 cq31, ex_2 cq31]
            refine p_aload_n k41_40 rfl ?_
            refine p_iload_n k41_41 rfl ?_
            refine p_cV1v k41_42 hTS.1.1 c_8_106_8 rfl (Nat.le_of_ble_eq_true rfl) (C_part4 S P0 (m := m2) (p := q2 + 1) (s := true) (cd := d2) h1.1 (fun _ => ⟨by omega, by omega⟩)) (fun m1 hq => ?_)
            obtain ⟨m4, cd4, rfl, hp4⟩ := hq
            have hg := rdg (pF_pg hCT 4 (by decide)) (s := true) (p := q2 + 1) (fun _ => by omega)
            refine p_aload_n k41_45 rfl ?_
            refine p_bipush (v := (-2)) k41_46 (by decide) ?_
            refine p_cV1v k41_48 hTS.1.1 c_8_113_8 rfl (Nat.le_of_ble_eq_true rfl) (C_addCode S P0 hp4.1 (-2)) (fun m1 hq => ?_)
            obtain rfl := hq
            refine p_iincN (ls1 := [(0, _), (1, _), (2, _), (3, _)]) k41_51 rfl rfl ?_
            refine p_goto (tgt := 17) k41_54 (by decide) ?_
            obtain ⟨t1, t2⟩ := tl_on (fun e => (h3 e).2.2.2.2) cq31
            have hlt := hp4.lt (p := q2 + 1) (fun L hL => (hg.1 L hL).2) (by omega) hn100
            have hPC := TL_out (L9 := []) h1 hp4 hs1 hlt
            refine ih (z + 1) _ _ _ _ (((rd true (pF c n 4) (q2 + 1)).2.map (fun L => Lt ++ L ++ [6001])).getD []) (by omega) hPC t1 (fun e => ?_)
            cases e2 : (rd true (pF c n 4) (q2 + 1)).2 with
            | none => rw [e2] at e; cases e
            | some L2 =>
              have hg2 := hg.1 L2 e2
              have hm4 := (hp4.2.2.2 L2 e2).1
              rw [if_pos (hlt e)]
              exact ⟨h4.1, by omega, hg2.2.2.1, by omega, t2 L2 e2⟩
      obtain ⟨t1, t2⟩ := tl_st (c := c) (f := (pF c n 4)) (n := n) (p := pp) (s := ss)
      rw [← hrT] at t1 t2
      refine L2 n 0 m1 _ _ cd1 ((rd ss (pF c n 4) pp).2.getD []) (by omega) (hp1.to opt_gd) t1 (fun e => ?_)
      obtain ⟨t3, t4⟩ := t2 e
      cases e2 : (rd ss (pF c n 4) pp).2 with
      | none => rw [e2] at e; cases e
      | some L2 =>
        have hg2 := hg1.1 L2 e2
        have hm4 := (hp1.2.2.2 L2 e2).1
        exact ⟨t3, hg2.2.1, hg2.2.2.1, by omega, by rw [t4, e2]⟩
  refine L n 0 m p s cd [] (by omega) (PC.refl hm).ite (fun e => by rw [hr0, rd_f e]) (fun e => ?_) (fun _ => rfl)
  have hl1 := hl e
  exact ⟨by omega, hl1.2.2, by rw [hr0, rd_t e]; exact cnt_0, fun _ => ⟨rfl, hl1.2.1⟩, fun e => absurd rfl e⟩

