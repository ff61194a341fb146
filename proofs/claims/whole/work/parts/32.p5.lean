/-! the reference reads: takesE, takesHead, takesClause -/
theorem e115 {I : Nat → Nat → Int32} {P V Sg W O x : Int32} {g u : Nat → Int32} {k : Nat} : upc (eI I P V Sg W O g u) 115 (upc (eI I P V Sg W O g u 115) k x) = eI (upc I 115 (upc (I 115) k x)) P V Sg W O g u := by
  rw [show eI I P V Sg W O g u 115 = I 115 from rfl, e_c (by decide) (by decide) (by decide)]
theorem e112 {I : Nat → Nat → Int32} {P V Sg W O x : Int32} {g u : Nat → Int32} {k : Nat} : upc (eI I P V Sg W O g u) 112 (upc (eI I P V Sg W O g u 112) k x) = eI (upc I 112 (upc (I 112) k x)) P V Sg W O g u := by
  rw [show eI I P V Sg W O g u 112 = I 112 from rfl, e_c (by decide) (by decide) (by decide)]
theorem e113 {I : Nat → Nat → Int32} {P V Sg W O x : Int32} {g u : Nat → Int32} {k : Nat} : upc (eI I P V Sg W O g u) 113 (upc (eI I P V Sg W O g u 113) k x) = eI (upc I 113 (upc (I 113) k x)) P V Sg W O g u := by
  rw [show eI I P V Sg W O g u 113 = I 113 from rfl, e_c (by decide) (by decide) (by decide)]
theorem e114 {I : Nat → Nat → Int32} {P V Sg W O x : Int32} {g u : Nat → Int32} {k : Nat} : upc (eI I P V Sg W O g u) 114 (upc (eI I P V Sg W O g u 114) k x) = eI (upc I 114 (upc (I 114) k x)) P V Sg W O g u := by
  rw [show eI I P V Sg W O g u 114 = I 114 from rfl, e_c (by decide) (by decide) (by decide)]
theorem e111 {I : Nat → Nat → Int32} {P V Sg W O x : Int32} {g u : Nat → Int32} {k : Nat} : upc (eI I P V Sg W O g u) 111 (upc (eI I P V Sg W O g u 111) k x) = eI (upc I 111 (upc (I 111) k x)) P V Sg W O g u := by
  rw [show eI I P V Sg W O g u 111 = I 111 from rfl, e_c (by decide) (by decide) (by decide)]
set_option maxRecDepth 100000 in
set_option maxHeartbeats 4000000 in
theorem M_takesEY {d : Nat} {I : Nat → Nat → Int32} {J : Nat → Nat → Int64} {K : Nat → Nat → Option Nat} {h : List xSh} (S : St K h) {c : Nat → Nat} {n p : Nat} {V W O : Int32} {g u : Nat → Int32} (X : TX I c n) (hp : p ≤ n) {cl s s0 : Nat} (hcl : cl < 60) (h5 : s0 ≤ 500) (hs0 : s0 ≤ s) (hsp : s ≤ s0 + p) {q : Nat} {L : List Nat} (hL : pE c (pF c n 4) n p = (q, some L)) : EvP (d + 4) 154 0 [(0, .ref (98)), (1, .int (nI (cl)))] [] (eI I (nI p) (V) (nI s) (W) (O) (g) (u), J, K, h) (QI (fun x m => x = bI true ∧ ∃ V' W' O' t' u', (∀ k, k ≠ cl → t' k = I 116 k) ∧ t' cl = nI (s + L.length) ∧ m = (eI (upc (upc I 115 (upc (I 115) cl (nI s))) 116 t') (nI q) V' (nI (s + L.length)) W' O' (ems g s (L.map rtN)) u', J, K, h))) := by
  refine p_aload_n k154_0 rfl ?_
  refine p_iconst (v := nI 0) k154_1 (by decide) ?_
  refine p_putIv k154_2 (s_98 S) g_12_98_12 n_154_12_29 ?_
  rw [e29]
  refine p_aload_n k154_5 rfl ?_
  refine p_iconst (v := nI 0) k154_6 (by decide) ?_
  refine p_putIv k154_7 (s_98 S) g_12_101_12 n_154_12_30 ?_
  rw [e30]
  refine p_aload_n k154_10 rfl ?_
  refine p_getRv k154_11 (s_98 S) f_12_83_12 (r_98_24 S) ?_
  refine p_iload_n k154_14 rfl ?_
  refine p_aload_n k154_15 rfl ?_
  refine p_getIv k154_16 (s_98 S) f_12_95_12 rfl ?_
  refine p_iastN k154_19 (s_115 S) (by omega) (by decide) ?_
  rw [e115]
  refine p_iconst (v := bI true) k154_20 (by decide) ?_
  refine p_istore_n (ls' := [(0, _), (1, _), (2, _)]) k154_21 rfl ?_
  refine p_drop [0, 1, 2] rfl ?_
  have hn := X.2.1
  have X1 : TX (upc I 115 (upc (I 115) cl (nI s))) c n := X
  have hok : OKs cl s0 n (upc I 115 (upc (I 115) cl (nI s))) g p s [] ((upc I 115 (upc (I 115) cl (nI s))) 116) g u := ⟨hs0, by show s + 0 ≤ s0 + p; omega, hp, trivial, fun a ha => (by cases ha), fun i _ => rfl, fun k _ => rfl⟩
  have hE := L_E (d := d) (J := J) (g0 := g) (Φ := QI (fun x m => x = bI true ∧ ∃ V' W' O' t' u', (∀ k, k ≠ cl → t' k = I 116 k) ∧ t' cl = nI (s + L.length) ∧ m = (eI (upc (upc I 115 (upc (I 115) cl (nI s))) 116 t') (nI q) V' (nI (s + L.length)) W' O' (ems g s (L.map rtN)) u', J, K, h))) S X1 hcl h5 (L_F S X1 hcl h5 4 (Nat.le_refl _)) (by omega) (by omega) (pF_pg X.2.2.1 4 (Nat.le_refl _)) (Wb := []) (fun a R e => (by cases e)) rfl (V := V) hok
  have e9 : upc (upc I 115 (upc (I 115) cl (nI s))) 116 ((upc I 115 (upc (I 115) cl (nI s))) 116) = upc I 115 (upc (I 115) cl (nI s)) := upc_self _ _
  have hH := hE.1 q L hL (fun V' pt' pe' Y' t' u' w1 w2 w3 w4 w5 w6 => by
    obtain ⟨m1, m2, m3, m4, m5, m6, m7⟩ := w3
    have hpp := pp_sub w1 w2
    rw [← List.append_assoc] at m2 m4 m5
    have hl : (pt' ++ pe' ++ []).length = ([] : List Nat).length + (pt' ++ pe').length := by rw [List.append_nil]; show _ = 0 + _; omega
    rw [hl] at m2
    have hL1 : L.length = Y'.length + (pt' ++ pe').length := by rw [w4, List.length_append, List.length_append, List.length_append, opN, opN, List.length_map, List.length_map]; omega
    unfold HD
    rw [← List.append_assoc, hl]
    refine E_end0 S X1 (by omega) hcl ⟨w5, w6⟩ (by omega) (by show 0 + _ ≤ 100; have : ([] : List Nat).length = 0 := rfl; omega) (fun a ha => (hpp a ha).elim Or.inl (fun z => Or.inr ⟨z, by decide⟩)) m4 (fun a ha => (by cases ha)) (fun a R e => (by cases e)) rfl ?_
    rw [ng_op hpp, ems2 _ _ _ _ _ rfl, show Y' ++ opN (pt' ++ pe') = L by rw [w4, List.append_assoc]; congr 1; exact List.map_append, show s + Y'.length + (pt' ++ pe').length = s + L.length by omega]
    exact ⟨_, rfl, rfl, V', _, _, _, u', fun k hk => (upc_ne _ _ hk).trans (m7 k hk), upc_eq _ _ _, rfl⟩)
  unfold HD at hH
  rw [e9] at hH
  exact hH

set_option maxRecDepth 100000 in
set_option maxHeartbeats 4000000 in
theorem M_takesEN {d : Nat} {I : Nat → Nat → Int32} {J : Nat → Nat → Int64} {K : Nat → Nat → Option Nat} {h : List xSh} (S : St K h) {c : Nat → Nat} {n p : Nat} {V W O : Int32} {g u : Nat → Int32} (X : TX I c n) (hp : p ≤ n) {cl s s0 : Nat} (hcl : cl < 60) (h5 : s0 ≤ 500) (hs0 : s0 ≤ s) (hsp : s ≤ s0 + p) {q : Nat} (hL : pE c (pF c n 4) n p = (q, none)) : EvP (d + 4) 154 0 [(0, .ref (98)), (1, .int (nI (cl)))] [] (eI I (nI p) (V) (nI s) (W) (O) (g) (u), J, K, h) (QI (fun x m => x = bI false ∧ ∃ V' S' W' O' t' g' u', (∀ k, k ≠ cl → t' k = I 116 k) ∧ (∀ i, i < s0 → g' i = g i) ∧ m = (eI (upc (upc I 115 (upc (I 115) cl (nI s))) 116 t') (nI q) V' S' W' O' g' u', J, K, h))) := by
  refine p_aload_n k154_0 rfl ?_
  refine p_iconst (v := nI 0) k154_1 (by decide) ?_
  refine p_putIv k154_2 (s_98 S) g_12_98_12 n_154_12_29 ?_
  rw [e29]
  refine p_aload_n k154_5 rfl ?_
  refine p_iconst (v := nI 0) k154_6 (by decide) ?_
  refine p_putIv k154_7 (s_98 S) g_12_101_12 n_154_12_30 ?_
  rw [e30]
  refine p_aload_n k154_10 rfl ?_
  refine p_getRv k154_11 (s_98 S) f_12_83_12 (r_98_24 S) ?_
  refine p_iload_n k154_14 rfl ?_
  refine p_aload_n k154_15 rfl ?_
  refine p_getIv k154_16 (s_98 S) f_12_95_12 rfl ?_
  refine p_iastN k154_19 (s_115 S) (by omega) (by decide) ?_
  rw [e115]
  refine p_iconst (v := bI true) k154_20 (by decide) ?_
  refine p_istore_n (ls' := [(0, _), (1, _), (2, _)]) k154_21 rfl ?_
  refine p_drop [0, 1, 2] rfl ?_
  have hn := X.2.1
  have X1 : TX (upc I 115 (upc (I 115) cl (nI s))) c n := X
  have hok : OKs cl s0 n (upc I 115 (upc (I 115) cl (nI s))) g p s [] ((upc I 115 (upc (I 115) cl (nI s))) 116) g u := ⟨hs0, by show s + 0 ≤ s0 + p; omega, hp, trivial, fun a ha => (by cases ha), fun i _ => rfl, fun k _ => rfl⟩
  have hE := L_E (d := d) (J := J) (g0 := g) (Φ := QI (fun x m => x = bI false ∧ ∃ V' S' W' O' t' g' u', (∀ k, k ≠ cl → t' k = I 116 k) ∧ (∀ i, i < s0 → g' i = g i) ∧ m = (eI (upc (upc I 115 (upc (I 115) cl (nI s))) 116 t') (nI q) V' S' W' O' g' u', J, K, h))) S X1 hcl h5 (L_F S X1 hcl h5 4 (Nat.le_refl _)) (by omega) (by omega) (pF_pg X.2.2.1 4 (Nat.le_refl _)) (Wb := []) (fun a R e => (by cases e)) rfl (V := V) hok
  have e9 : upc (upc I 115 (upc (I 115) cl (nI s))) 116 ((upc I 115 (upc (I 115) cl (nI s))) 116) = upc I 115 (upc (I 115) cl (nI s)) := upc_self _ _
  have hH := hE.2 q hL (fun V' S' W' O' t' g' u' w1 w2 => ⟨_, rfl, rfl, V', S', W', O', t', g', u', w2, w1, rfl⟩)
  unfold HD at hH
  rw [e9] at hH
  exact hH

theorem wd_lit {k : Nat} (hk : k < 4) : wdN k = litR (4 * k) 4 0 := by
  rcases (show k = 0 ∨ k = 1 ∨ k = 2 ∨ k = 3 by omega) with rfl | rfl | rfl | rfl <;> rfl
theorem lk_hd {z : Int} (h : z ≠ 103 ∧ z ≠ 109 ∧ z ≠ 115) : Op.lookupswitch.offset (#[(103, 50), (109, 64), (115, 36)] : Array (Int × Int)).toList 79 z = 79 := by
  obtain ⟨h1, h2, h3⟩ := h
  simp [Op.lookupswitch.offset, Ne.symm h1, Ne.symm h2, Ne.symm h3]
theorem nx_ne {c : Nat → Nat} {n p k : Nat} (hc : CT c n) (hk : k < 128) (h : c p ≠ k) : (nx c n p).toInt ≠ (k : Int) := by
  intro e
  refine h ((nx_eq hc hk).mp ?_)
  rw [i_eq, nI_t (by omega)]
  exact e
/-- the letters of the words stand -/
def LT9 (I : Nat → Nat → Int32) : Prop := ∀ i, i < 16 → I 119 i = nI (ltrN i)
set_option maxRecDepth 100000 in
set_option maxHeartbeats 4000000 in
theorem M_takesHead {d : Nat} {I : Nat → Nat → Int32} {J : Nat → Nat → Int64} {K : Nat → Nat → Option Nat} {h : List xSh} (S : St K h) {c : Nat → Nat} {n p : Nat} {V Sg W O : Int32} {g u : Nat → Int32} (X : TX I c n) (hp : p ≤ n) {cl : Nat} (hcl : cl < 60) (hLT : LT9 I) : EvP (d + 3) 155 0 [(0, .ref (98)), (1, .int (nI (cl)))] [] (eI I (nI p) (V) (Sg) (W) (O) (g) (u), J, K, h) (QI (fun x m => x = bI (pLit c (wdN (hdN (c p))) p).2 ∧ m = (eI (upc I 112 (upc (I 112) cl (nI (hdN (c p))))) (nI (pLit c (wdN (hdN (c p))) p).1) (V) (Sg) (W) (O) (g) (u), J, K, h))) := by
  have hn100 := X.2.1
  refine p_aload_n k155_0 rfl ?_
  refine p_cV0i k155_1 (s_98 S) c_12_269_12 (Nat.le_of_ble_eq_true rfl) (M_next S (p := p) X (by omega)) (fun x1 m1 hq => ?_)
  obtain ⟨rfl, rfl⟩ := hq
  by_cases h115 : c p = 115
  · skip
    rw [show nx c n p = nI 115 from (nx_eq X.2.2.1 (by omega)).mpr h115]
    refine p_lookup (off := 36) (tgt := 40) k155_4 (by decide) (by rw [nI_t (by decide)]; decide) (by decide) ?_
    have hkk : hdN (c p) = 0 := by unfold hdN; rw [h115]; rfl
    refine p_aload_n k155_40 rfl ?_
    refine p_getRv k155_41 (s_98 S) f_12_74_12 (r_98_21 S) ?_
    refine p_iload_n k155_44 rfl ?_
    refine p_iconst (v := nI 0) k155_45 (by decide) ?_
    refine p_iastN k155_46 (s_112 S) (by omega) (by decide) ?_
    rw [e112]
    refine p_aload_n k155_47 rfl ?_
    refine p_iconst (v := nI 0) k155_48 (by decide) ?_
    refine p_iconst (v := nI 4) k155_49 (by decide) ?_
    refine p_cV2i k155_50 (s_98 S) c_12_299_12 rfl rfl (Nat.le_of_ble_eq_true rfl) (M_takesWord S (p0 := p) (I := upc I 112 (upc (I 112) cl (nI 0))) (f := 0) (by exact X) hp (by omega) (by exact hLT)) (fun x1 m1 hq => ?_)
    obtain ⟨rfl, rfl⟩ := hq
    refine p_returnB k155_53 rt_155 ?_
    exact ⟨by rw [hkk]; rfl, by rw [hkk]; rfl⟩
  · skip
    by_cases h103 : c p = 103
    · skip
      rw [show nx c n p = nI 103 from (nx_eq X.2.2.1 (by omega)).mpr h103]
      refine p_lookup (off := 50) (tgt := 54) k155_4 (by decide) (by rw [nI_t (by decide)]; decide) (by decide) ?_
      have hkk : hdN (c p) = 1 := by unfold hdN; rw [h103]; rfl
      refine p_aload_n k155_54 rfl ?_
      refine p_getRv k155_55 (s_98 S) f_12_74_12 (r_98_21 S) ?_
      refine p_iload_n k155_58 rfl ?_
      refine p_iconst (v := nI 1) k155_59 (by decide) ?_
      refine p_iastN k155_60 (s_112 S) (by omega) (by decide) ?_
      rw [e112]
      refine p_aload_n k155_61 rfl ?_
      refine p_iconst (v := nI 4) k155_62 (by decide) ?_
      refine p_iconst (v := nI 4) k155_63 (by decide) ?_
      refine p_cV2i k155_64 (s_98 S) c_12_299_12 rfl rfl (Nat.le_of_ble_eq_true rfl) (M_takesWord S (p0 := p) (I := upc I 112 (upc (I 112) cl (nI 1))) (f := 4) (by exact X) hp (by omega) (by exact hLT)) (fun x1 m1 hq => ?_)
      obtain ⟨rfl, rfl⟩ := hq
      refine p_returnB k155_67 rt_155 ?_
      exact ⟨by rw [hkk]; rfl, by rw [hkk]; rfl⟩
    · skip
      by_cases h109 : c p = 109
      · skip
        rw [show nx c n p = nI 109 from (nx_eq X.2.2.1 (by omega)).mpr h109]
        refine p_lookup (off := 64) (tgt := 68) k155_4 (by decide) (by rw [nI_t (by decide)]; decide) (by decide) ?_
        have hkk : hdN (c p) = 2 := by unfold hdN; rw [h109]; rfl
        refine p_aload_n k155_68 rfl ?_
        refine p_getRv k155_69 (s_98 S) f_12_74_12 (r_98_21 S) ?_
        refine p_iload_n k155_72 rfl ?_
        refine p_iconst (v := nI 2) k155_73 (by decide) ?_
        refine p_iastN k155_74 (s_112 S) (by omega) (by decide) ?_
        rw [e112]
        refine p_aload_n k155_75 rfl ?_
        refine p_bipush (v := nI 8) k155_76 (by decide) ?_
        refine p_iconst (v := nI 4) k155_78 (by decide) ?_
        refine p_cV2i k155_79 (s_98 S) c_12_299_12 rfl rfl (Nat.le_of_ble_eq_true rfl) (M_takesWord S (p0 := p) (I := upc I 112 (upc (I 112) cl (nI 2))) (f := 8) (by exact X) hp (by omega) (by exact hLT)) (fun x1 m1 hq => ?_)
        obtain ⟨rfl, rfl⟩ := hq
        refine p_returnB k155_82 rt_155 ?_
        exact ⟨by rw [hkk]; rfl, by rw [hkk]; rfl⟩
      · skip
        refine p_lookup (off := 79) (tgt := 83) k155_4 (by decide) (lk_hd ⟨nx_ne (k := 103) X.2.2.1 (by omega) h103, nx_ne (k := 109) X.2.2.1 (by omega) h109, nx_ne (k := 115) X.2.2.1 (by omega) h115⟩) (by decide) ?_
        have hkk : hdN (c p) = 3 := by unfold hdN; rw [if_neg h115, if_neg h103, if_neg h109]
        refine p_aload_n k155_83 rfl ?_
        refine p_getRv k155_84 (s_98 S) f_12_74_12 (r_98_21 S) ?_
        refine p_iload_n k155_87 rfl ?_
        refine p_iconst (v := nI 3) k155_88 (by decide) ?_
        refine p_iastN k155_89 (s_112 S) (by omega) (by decide) ?_
        rw [e112]
        refine p_aload_n k155_90 rfl ?_
        refine p_bipush (v := nI 12) k155_91 (by decide) ?_
        refine p_iconst (v := nI 4) k155_93 (by decide) ?_
        refine p_cV2i k155_94 (s_98 S) c_12_299_12 rfl rfl (Nat.le_of_ble_eq_true rfl) (M_takesWord S (p0 := p) (I := upc I 112 (upc (I 112) cl (nI 3))) (f := 12) (by exact X) hp (by omega) (by exact hLT)) (fun x1 m1 hq => ?_)
        obtain ⟨rfl, rfl⟩ := hq
        refine p_returnB k155_97 rt_155 ?_
        exact ⟨by rw [hkk]; rfl, by rw [hkk]; rfl⟩

/-- nothing but this clause's own places changed -/
def FRM (I I2 : Nat → Nat → Int32) (cl : Nat) : Prop := (∀ x, x < 112 ∨ 116 < x → I2 x = I x) ∧ ∀ x i, i ≠ cl → I2 x i = I x i
theorem FRM.refl (I : Nat → Nat → Int32) (cl : Nat) : FRM I I cl := ⟨fun _ _ => rfl, fun _ _ _ => rfl⟩
theorem FRM.trans {I I1 I2 : Nat → Nat → Int32} {cl : Nat} (h : FRM I I1 cl) (h2 : FRM I1 I2 cl) : FRM I I2 cl := ⟨fun x hx => (h2.1 x hx).trans (h.1 x hx), fun x i hi => (h2.2 x i hi).trans (h.2 x i hi)⟩
theorem FRM.up {I : Nat → Nat → Int32} {cl x : Nat} {v : Int32} (hx : 112 ≤ x) (hx2 : x ≤ 116) : FRM I (upc I x (upc (I x) cl v)) cl := ⟨fun y hy => upc_ne _ _ (by omega), fun y i hi => by
  by_cases e : y = x
  · subst e; rw [upc_eq, upc_ne _ _ hi]
  · rw [upc_ne _ _ e]⟩
theorem FRM.up2 {I : Nat → Nat → Int32} {cl : Nat} {t : Nat → Int32} (ht : ∀ k, k ≠ cl → t k = I 116 k) : FRM I (upc I 116 t) cl := ⟨fun y hy => upc_ne _ _ (by omega), fun y i hi => by
  by_cases e : y = 116
  · subst e; rw [upc_eq]; exact ht i hi
  · rw [upc_ne _ _ e]⟩
/-- a clause as it is kept, its codes below smax -/
def RClg (I : Nat → Nat → Int32) (g : Nat → Int32) (c : Nat) (x : xCl) (smax : Nat) : Prop := (x.1 < 4 ∧ x.2.1 < 100 ∧ x.2.2.1 < 100) ∧ I 112 c = nI x.1 ∧ I 113 c = nI x.2.1 ∧ (x.1 = 3 → I 114 c = nI x.2.2.1) ∧ (x.1 < 2 → Sem 11 x.2.2.2 ∧ ∃ f0, f0 + x.2.2.2.length ≤ smax ∧ x.2.2.2.length ≤ 100 ∧ I 115 c = nI f0 ∧ I 116 c = nI (f0 + x.2.2.2.length) ∧ ∀ i, i < x.2.2.2.length → g (f0 + i) = rtN (x.2.2.2.getD i 0))
theorem RClg.mono {I I2 : Nat → Nat → Int32} {g g2 : Nat → Int32} {c cq2 : Nat} {x : xCl} {s s2 : Nat} (h : RClg I g c x s) (hF : FRM I I2 cq2) (hc : c ≠ cq2) (hg : ∀ i, i < s → g2 i = g i) (hs : s ≤ s2) : RClg I2 g2 c x s2 := by
  obtain ⟨h1, h2, h3, h4, h5⟩ := h
  refine ⟨h1, (hF.2 112 c hc).trans h2, (hF.2 113 c hc).trans h3, fun e => (hF.2 114 c hc).trans (h4 e), fun e => ?_⟩
  obtain ⟨k1, f0, k2, k3, k4, k5, k6⟩ := h5 e
  exact ⟨k1, f0, by omega, k3, (hF.2 115 c hc).trans k4, (hF.2 116 c hc).trans k5, fun i hi => (hg _ (by omega)).trans (k6 i hi)⟩
theorem rt_at {L : List Nat} {i : Nat} (hi : i < L.length) : (L.map rtN).getD i 0 = rtN (L.getD i 0) := by
  rw [List.getD_eq_getElem?_getD, List.getElem?_map, List.getD_eq_getElem?_getD, List.getElem?_eq_getElem hi]
  rfl
theorem hd4 (x : Nat) : hdN x < 4 := by
  unfold hdN
  repeat' split
  all_goals decide
theorem wd_ok (k : Nat) : ∀ a ∈ wdN k, a < 128 := by
  unfold wdN
  split <;> decide
theorem pLit_le {c : Nat → Nat} {n : Nat} (hc : CT c n) : ∀ {L : List Nat} {p q : Nat} {b : Bool}, (∀ a ∈ L, a < 128) → p ≤ n → pLit c L p = (q, b) → p ≤ q ∧ q ≤ n := by
  intro L
  induction L with
  | nil => intro p q b _ hp e; cases e; exact ⟨Nat.le_refl _, hp⟩
  | cons x L ih =>
    intro p q b hL hp e
    by_cases h : c p = x
    · have e2 : pLit c L (p + 1) = (q, b) := (if_pos h).symm.trans e
      have hx := hL x (List.mem_cons_self ..)
      have hpn := hc.lt (p := p) (by omega)
      have := ih (fun a ha => hL a (List.mem_cons_of_mem _ ha)) (by omega) e2
      omega
    · have e2 : (p, false) = (q, b) := (if_neg h).symm.trans e
      cases e2
      exact ⟨Nat.le_refl _, hp⟩
set_option maxRecDepth 100000 in
set_option maxHeartbeats 4000000 in
theorem M_takesClauseY {d : Nat} {I : Nat → Nat → Int32} {J : Nat → Nat → Int64} {K : Nat → Nat → Option Nat} {h : List xSh} (S : St K h) {c : Nat → Nat} {n p : Nat} {V W O : Int32} {g u : Nat → Int32} (X : TX I c n) (hp : p ≤ n) {cl s s0 : Nat} (hcl : cl < 60) (h5 : s0 ≤ 500) (hs0 : s0 ≤ s) (hsp : s ≤ s0 + p) (hLT : LT9 I) {q : Nat} {x : xCl} (hC : pCl c n p = (q, some x)) : EvP (d + 5) 156 0 [(0, .ref (98)), (1, .int (nI (cl)))] [] (eI I (nI p) (V) (nI s) (W) (O) (g) (u), J, K, h) (QI (fun z m => z = bI true ∧ ∃ I' V' W' O' u', FRM I I' cl ∧ RClg I' (ems g s (x.2.2.2.map rtN)) cl x (s + x.2.2.2.length) ∧ q ≤ n ∧ s + x.2.2.2.length ≤ s0 + q ∧ p < q ∧ m = (eI I' (nI q) V' (nI (s + x.2.2.2.length)) W' O' (ems g s (x.2.2.2.map rtN)) u', J, K, h))) := by
  have hn100 := X.2.1
  have hk4 := hd4 (c p)
  unfold pCl at hC
  rcases e1 : pLit c (wdN (hdN (c p))) p with ⟨q1, _ | _⟩
  · rw [e1] at hC
    cases hC
  · rw [e1] at hC
    have hq1 := pLit_le X.2.2.1 (L := wdN (hdN (c p))) (wd_ok _) hp e1
    replace hC : pCl2 c n (hdN (c p)) q1 = _ := hC
    unfold pCl2 at hC
    rcases e2 : pNum c q1 with ⟨q2, _ | v⟩
    · rw [e2] at hC
      cases hC
    · rw [e2] at hC
      obtain ⟨n1, n2, n3, n4⟩ := pNum_some X.2.2.1 e2
      replace hC : pCl3 c n (hdN (c p)) v q2 = _ := hC
      unfold pCl3 at hC
      by_cases hk2 : hdN (c p) = 2
      · rw [if_pos hk2] at hC
        cases hC
        refine p_aload_n k156_0 rfl ?_
        refine p_iload_n k156_1 rfl ?_
        refine p_cV1i k156_2 (s_98 S) c_12_303_12 rfl (Nat.le_of_ble_eq_true rfl) (M_takesHead S X hp hcl hLT) (fun x1 m1 hq => ?_)
        obtain ⟨rfl, rfl⟩ := hq
        rw [e1]
        refine p_if_eqB (tgt := 15) k156_5 (by decide) (fun c => False.elim (by cases c)) (fun _ => ?_)
        refine p_aload_n k156_8 rfl ?_
        refine p_cV0i k156_9 (s_98 S) c_12_287_12 (Nat.le_of_ble_eq_true rfl) (M_takesNumber S (I := (upc I 112 (upc (I 112) cl (nI (hdN (c p)))))) (p := q1) X (by omega) e2) (fun x1 m1 hq => ?_)
        obtain ⟨rfl, rfl⟩ := hq
        refine p_if_neB (tgt := 17) k156_12 (by decide) (fun _ => ?_) (fun c => False.elim (by cases c))
        refine p_aload_n k156_17 rfl ?_
        refine p_getRv k156_18 (s_98 S) f_12_77_12 (r_98_22 S) ?_
        refine p_iload_n k156_21 rfl ?_
        refine p_aload_n k156_22 rfl ?_
        refine p_getIv k156_23 (s_98 S) f_12_65_12 rfl ?_
        refine p_iastN k156_26 (s_113 S) (by omega) (by decide) ?_
        rw [e113]
        refine p_aload_n k156_27 rfl ?_
        refine p_getRv k156_28 (s_98 S) f_12_74_12 (r_98_21 S) ?_
        refine p_iload_n k156_31 rfl ?_
        refine p_ialdN k156_32 (s_112 S) (by omega) (by decide) (show _ = nI (hdN (c p)) from upc_eq _ _ _) ?_
        refine p_iconst (v := nI 2) k156_33 (by decide) ?_
        refine p_icmp_neN (tgt := 39) k156_34 (by decide) (by omega) (by omega) (fun c => False.elim (by omega)) (fun _ => ?_)
        refine p_iconst (v := bI true) k156_37 (by decide) ?_
        refine p_returnB k156_38 rt_156 ?_
        exact ⟨rfl, _, _, _, _, _, (FRM.up (cl := cl) (x := 112) (by omega) (by omega)).trans (FRM.up (x := 113) (by omega) (by omega)), ⟨⟨by show 2 < 4; decide, n4, by show 0 < 100; decide⟩, (upc_eq _ _ _).trans (by rw [hk2]), upc_eq _ _ _, fun e => absurd e (by show ¬ 2 = 3; decide), fun e => absurd e (by show ¬ 2 < 2; decide)⟩, n2, by show s + 0 ≤ _; omega, by omega, rfl⟩
      · rw [if_neg hk2] at hC
        by_cases h32 : c q2 = 32
        · rw [if_neg (fun z => z h32)] at hC
          have hq2n := X.2.2.1.lt (p := q2) (by omega)
          by_cases hkl : hdN (c p) < 2
          · rw [if_pos hkl] at hC
            rcases e4 : pE c (pF c n 4) n (q2 + 1) with ⟨q3, _ | L⟩
            · rw [e4] at hC
              cases hC
            · rw [e4] at hC
              cases hC
              obtain ⟨m1, m2, m3, m4⟩ := ((pE_pg X.2.2.1 (by omega) (by omega) (pF_pg X.2.2.1 4 (Nat.le_refl _))) (q2 + 1)).1 _ _ e4
              refine p_aload_n k156_0 rfl ?_
              refine p_iload_n k156_1 rfl ?_
              refine p_cV1i k156_2 (s_98 S) c_12_303_12 rfl (Nat.le_of_ble_eq_true rfl) (M_takesHead S X hp hcl hLT) (fun x1 m1 hq => ?_)
              obtain ⟨rfl, rfl⟩ := hq
              rw [e1]
              refine p_if_eqB (tgt := 15) k156_5 (by decide) (fun c => False.elim (by cases c)) (fun _ => ?_)
              refine p_aload_n k156_8 rfl ?_
              refine p_cV0i k156_9 (s_98 S) c_12_287_12 (Nat.le_of_ble_eq_true rfl) (M_takesNumber S (I := (upc I 112 (upc (I 112) cl (nI (hdN (c p)))))) (p := q1) X (by omega) e2) (fun x1 m1 hq => ?_)
              obtain ⟨rfl, rfl⟩ := hq
              refine p_if_neB (tgt := 17) k156_12 (by decide) (fun _ => ?_) (fun c => False.elim (by cases c))
              refine p_aload_n k156_17 rfl ?_
              refine p_getRv k156_18 (s_98 S) f_12_77_12 (r_98_22 S) ?_
              refine p_iload_n k156_21 rfl ?_
              refine p_aload_n k156_22 rfl ?_
              refine p_getIv k156_23 (s_98 S) f_12_65_12 rfl ?_
              refine p_iastN k156_26 (s_113 S) (by omega) (by decide) ?_
              rw [e113]
              refine p_aload_n k156_27 rfl ?_
              refine p_getRv k156_28 (s_98 S) f_12_74_12 (r_98_21 S) ?_
              refine p_iload_n k156_31 rfl ?_
              refine p_ialdN k156_32 (s_112 S) (by omega) (by decide) (show _ = nI (hdN (c p)) from upc_eq _ _ _) ?_
              refine p_iconst (v := nI 2) k156_33 (by decide) ?_
              refine p_icmp_neN (tgt := 39) k156_34 (by decide) (by omega) (by omega) (fun _ => ?_) (fun c => False.elim (by omega))
              refine p_aload_n k156_39 rfl ?_
              refine p_getRv k156_40 (s_98 S) f_12_74_12 (r_98_21 S) ?_
              refine p_iload_n k156_43 rfl ?_
              refine p_ialdN k156_44 (s_112 S) (by omega) (by decide) (show _ = nI (hdN (c p)) from upc_eq _ _ _) ?_
              refine p_iconst (v := nI 2) k156_45 (by decide) ?_
              refine p_icmp_geN (tgt := 72) k156_46 (by decide) (by omega) (by omega) (fun c => False.elim (by omega)) (fun _ => ?_)
              refine p_aload_n k156_49 rfl ?_
              refine p_bipush (v := nI 32) k156_50 (by decide) ?_
              refine p_cV1i k156_52 (s_98 S) c_12_273_12 rfl (Nat.le_of_ble_eq_true rfl) (M_takes S (I := (upc (upc I 112 (upc (I 112) cl (nI (hdN (c p))))) 113 (upc ((upc I 112 (upc (I 112) cl (nI (hdN (c p))))) 113) cl (nI v)))) (p := q2) (k := 32) X (by omega) (by omega)) (fun x1 m1 hq => ?_)
              obtain ⟨rfl, rfl⟩ := hq
              rw [if_pos h32, decide_eq_true h32]
              refine p_if_eqB (tgt := 70) k156_55 (by decide) (fun c => False.elim (by cases c)) (fun _ => ?_)
              refine p_aload_n k156_58 rfl ?_
              refine p_iload_n k156_59 rfl ?_
              refine p_cV1i k156_60 (s_98 S) c_12_306_12 rfl (Nat.le_of_ble_eq_true rfl) (M_takesEY S (I := (upc (upc I 112 (upc (I 112) cl (nI (hdN (c p))))) 113 (upc ((upc I 112 (upc (I 112) cl (nI (hdN (c p))))) 113) cl (nI v)))) (p := q2 + 1) X (by omega) hcl h5 hs0 (by omega) e4) (fun x1 m1 hq => ?_)
              obtain ⟨rfl, V', W', O', t', u', w1, w2, rfl⟩ := hq
              refine p_if_eqB (tgt := 70) k156_63 (by decide) (fun c => False.elim (by cases c)) (fun _ => ?_)
              refine p_iconst (v := bI true) k156_66 (by decide) ?_
              refine p_goto (tgt := 71) k156_67 (by decide) ?_
              refine p_returnB k156_71 rt_156 ?_
              refine ⟨rfl, _, V', W', O', u', ((FRM.up (cl := cl) (x := 112) (by omega) (by omega)).trans (FRM.up (x := 113) (by omega) (by omega))).trans ((FRM.up (x := 115) (by omega) (by omega)).trans (FRM.up2 w1)), ⟨⟨by show hdN (c p) < 4; omega, n4, by show 0 < 100; decide⟩, upc_eq _ _ _, upc_eq _ _ _, fun e => absurd e (by show ¬ hdN (c p) = 3; omega), fun _ => ⟨m4, s, Nat.le_refl _, by show L.length ≤ 100; omega, upc_eq _ _ _, w2, fun i hi => ?_⟩⟩, m2, by show s + L.length ≤ _; omega, by omega, rfl⟩
              have hi2 : i < L.length := hi
              rw [ems_at _ _ _ _ (by rw [List.length_map]; exact hi2)]
              exact rt_at hi2
          · rw [if_neg hkl] at hC
            rcases e4 : pNum c (q2 + 1) with ⟨q3, _ | w⟩
            · rw [e4] at hC
              cases hC
            · rw [e4] at hC
              cases hC
              obtain ⟨m1, m2, m3, m4⟩ := pNum_some X.2.2.1 e4
              have hk3 : hdN (c p) = 3 := by omega
              refine p_aload_n k156_0 rfl ?_
              refine p_iload_n k156_1 rfl ?_
              refine p_cV1i k156_2 (s_98 S) c_12_303_12 rfl (Nat.le_of_ble_eq_true rfl) (M_takesHead S X hp hcl hLT) (fun x1 m1 hq => ?_)
              obtain ⟨rfl, rfl⟩ := hq
              rw [e1]
              refine p_if_eqB (tgt := 15) k156_5 (by decide) (fun c => False.elim (by cases c)) (fun _ => ?_)
              refine p_aload_n k156_8 rfl ?_
              refine p_cV0i k156_9 (s_98 S) c_12_287_12 (Nat.le_of_ble_eq_true rfl) (M_takesNumber S (I := (upc I 112 (upc (I 112) cl (nI (hdN (c p)))))) (p := q1) X (by omega) e2) (fun x1 m1 hq => ?_)
              obtain ⟨rfl, rfl⟩ := hq
              refine p_if_neB (tgt := 17) k156_12 (by decide) (fun _ => ?_) (fun c => False.elim (by cases c))
              refine p_aload_n k156_17 rfl ?_
              refine p_getRv k156_18 (s_98 S) f_12_77_12 (r_98_22 S) ?_
              refine p_iload_n k156_21 rfl ?_
              refine p_aload_n k156_22 rfl ?_
              refine p_getIv k156_23 (s_98 S) f_12_65_12 rfl ?_
              refine p_iastN k156_26 (s_113 S) (by omega) (by decide) ?_
              rw [e113]
              refine p_aload_n k156_27 rfl ?_
              refine p_getRv k156_28 (s_98 S) f_12_74_12 (r_98_21 S) ?_
              refine p_iload_n k156_31 rfl ?_
              refine p_ialdN k156_32 (s_112 S) (by omega) (by decide) (show _ = nI (hdN (c p)) from upc_eq _ _ _) ?_
              refine p_iconst (v := nI 2) k156_33 (by decide) ?_
              refine p_icmp_neN (tgt := 39) k156_34 (by decide) (by omega) (by omega) (fun _ => ?_) (fun c => False.elim (by omega))
              refine p_aload_n k156_39 rfl ?_
              refine p_getRv k156_40 (s_98 S) f_12_74_12 (r_98_21 S) ?_
              refine p_iload_n k156_43 rfl ?_
              refine p_ialdN k156_44 (s_112 S) (by omega) (by decide) (show _ = nI (hdN (c p)) from upc_eq _ _ _) ?_
              refine p_iconst (v := nI 2) k156_45 (by decide) ?_
              refine p_icmp_geN (tgt := 72) k156_46 (by decide) (by omega) (by omega) (fun _ => ?_) (fun c => False.elim (by omega))
              refine p_aload_n k156_72 rfl ?_
              refine p_bipush (v := nI 32) k156_73 (by decide) ?_
              refine p_cV1i k156_75 (s_98 S) c_12_273_12 rfl (Nat.le_of_ble_eq_true rfl) (M_takes S (I := (upc (upc I 112 (upc (I 112) cl (nI (hdN (c p))))) 113 (upc ((upc I 112 (upc (I 112) cl (nI (hdN (c p))))) 113) cl (nI v)))) (p := q2) (k := 32) X (by omega) (by omega)) (fun x1 m1 hq => ?_)
              obtain ⟨rfl, rfl⟩ := hq
              rw [if_pos h32, decide_eq_true h32]
              refine p_if_eqB (tgt := 88) k156_78 (by decide) (fun c => False.elim (by cases c)) (fun _ => ?_)
              refine p_aload_n k156_81 rfl ?_
              refine p_cV0i k156_82 (s_98 S) c_12_287_12 (Nat.le_of_ble_eq_true rfl) (M_takesNumber S (I := (upc (upc I 112 (upc (I 112) cl (nI (hdN (c p))))) 113 (upc ((upc I 112 (upc (I 112) cl (nI (hdN (c p))))) 113) cl (nI v)))) (p := q2 + 1) X (by omega) e4) (fun x1 m1 hq => ?_)
              obtain ⟨rfl, rfl⟩ := hq
              refine p_if_neB (tgt := 90) k156_85 (by decide) (fun _ => ?_) (fun c => False.elim (by cases c))
              refine p_aload_n k156_90 rfl ?_
              refine p_getRv k156_91 (s_98 S) f_12_80_12 (r_98_23 S) ?_
              refine p_iload_n k156_94 rfl ?_
              refine p_aload_n k156_95 rfl ?_
              refine p_getIv k156_96 (s_98 S) f_12_65_12 rfl ?_
              refine p_iastN k156_99 (s_114 S) (by omega) (by decide) ?_
              rw [e114]
              refine p_iconst (v := bI true) k156_100 (by decide) ?_
              refine p_returnB k156_101 rt_156 ?_
              exact ⟨rfl, _, _, _, _, _, ((FRM.up (cl := cl) (x := 112) (by omega) (by omega)).trans (FRM.up (x := 113) (by omega) (by omega))).trans (FRM.up (x := 114) (by omega) (by omega)), ⟨⟨by show 3 < 4; decide, n4, m4⟩, (upc_eq _ _ _).trans (by rw [hk3]), upc_eq _ _ _, fun _ => upc_eq _ _ _, fun e => absurd e (by show ¬ 3 < 2; decide)⟩, m2, by show s + 0 ≤ _; omega, by omega, rfl⟩
        · rw [if_pos h32] at hC
          cases hC

set_option maxRecDepth 100000 in
set_option maxHeartbeats 4000000 in
theorem M_takesClauseN {d : Nat} {I : Nat → Nat → Int32} {J : Nat → Nat → Int64} {K : Nat → Nat → Option Nat} {h : List xSh} (S : St K h) {c : Nat → Nat} {n p : Nat} {V W O : Int32} {g u : Nat → Int32} (X : TX I c n) (hp : p ≤ n) {cl s s0 : Nat} (hcl : cl < 60) (h5 : s0 ≤ 500) (hs0 : s0 ≤ s) (hsp : s ≤ s0 + p) (hLT : LT9 I) {q : Nat} (hC : pCl c n p = (q, none)) : EvP (d + 5) 156 0 [(0, .ref (98)), (1, .int (nI (cl)))] [] (eI I (nI p) (V) (nI s) (W) (O) (g) (u), J, K, h) (QI (fun z m => z = bI false ∧ ∃ I' V' S' W' O' g' u', FRM I I' cl ∧ (∀ i, i < s0 → g' i = g i) ∧ m = (eI I' (nI q) V' S' W' O' g' u', J, K, h))) := by
  have hn100 := X.2.1
  have hk4 := hd4 (c p)
  unfold pCl at hC
  rcases e1 : pLit c (wdN (hdN (c p))) p with ⟨q1, _ | _⟩
  · rw [e1] at hC
    cases hC
    refine p_aload_n k156_0 rfl ?_
    refine p_iload_n k156_1 rfl ?_
    refine p_cV1i k156_2 (s_98 S) c_12_303_12 rfl (Nat.le_of_ble_eq_true rfl) (M_takesHead S X hp hcl hLT) (fun x1 m1 hq => ?_)
    obtain ⟨rfl, rfl⟩ := hq
    rw [e1]
    refine p_if_eqB (tgt := 15) k156_5 (by decide) (fun _ => ?_) (fun c => False.elim (by cases c))
    refine p_iconst (v := bI false) k156_15 (by decide) ?_
    refine p_returnB k156_16 rt_156 ?_
    exact ⟨rfl, _, _, _, _, _, g, _, FRM.up (by omega) (by omega), fun i hi => rfl, rfl⟩
  · rw [e1] at hC
    have hq1 := pLit_le X.2.2.1 (L := wdN (hdN (c p))) (wd_ok _) hp e1
    replace hC : pCl2 c n (hdN (c p)) q1 = _ := hC
    unfold pCl2 at hC
    rcases e2 : pNum c q1 with ⟨q2, _ | v⟩
    · rw [e2] at hC
      cases hC
      obtain ⟨rfl, e3⟩ := pNum_none e2
      refine p_aload_n k156_0 rfl ?_
      refine p_iload_n k156_1 rfl ?_
      refine p_cV1i k156_2 (s_98 S) c_12_303_12 rfl (Nat.le_of_ble_eq_true rfl) (M_takesHead S X hp hcl hLT) (fun x1 m1 hq => ?_)
      obtain ⟨rfl, rfl⟩ := hq
      rw [e1]
      refine p_if_eqB (tgt := 15) k156_5 (by decide) (fun c => False.elim (by cases c)) (fun _ => ?_)
      refine p_aload_n k156_8 rfl ?_
      refine p_cV0i k156_9 (s_98 S) c_12_287_12 (Nat.le_of_ble_eq_true rfl) (M_takesNumberN S (I := (upc I 112 (upc (I 112) cl (nI (hdN (c p)))))) (p := q) X (by omega) e3) (fun x1 m1 hq => ?_)
      obtain ⟨rfl, rfl⟩ := hq
      refine p_if_neB (tgt := 17) k156_12 (by decide) (fun c => False.elim (by cases c)) (fun _ => ?_)
      refine p_iconst (v := bI false) k156_15 (by decide) ?_
      refine p_returnB k156_16 rt_156 ?_
      exact ⟨rfl, _, _, _, _, _, g, _, FRM.up (by omega) (by omega), fun i hi => rfl, rfl⟩
    · rw [e2] at hC
      obtain ⟨n1, n2, n3, n4⟩ := pNum_some X.2.2.1 e2
      replace hC : pCl3 c n (hdN (c p)) v q2 = _ := hC
      unfold pCl3 at hC
      by_cases hk2 : hdN (c p) = 2
      · rw [if_pos hk2] at hC
        cases hC
      · rw [if_neg hk2] at hC
        by_cases h32 : c q2 = 32
        · rw [if_neg (fun z => z h32)] at hC
          have hq2n := X.2.2.1.lt (p := q2) (by omega)
          by_cases hkl : hdN (c p) < 2
          · rw [if_pos hkl] at hC
            rcases e4 : pE c (pF c n 4) n (q2 + 1) with ⟨q3, _ | L⟩
            · rw [e4] at hC
              cases hC
              refine p_aload_n k156_0 rfl ?_
              refine p_iload_n k156_1 rfl ?_
              refine p_cV1i k156_2 (s_98 S) c_12_303_12 rfl (Nat.le_of_ble_eq_true rfl) (M_takesHead S X hp hcl hLT) (fun x1 m1 hq => ?_)
              obtain ⟨rfl, rfl⟩ := hq
              rw [e1]
              refine p_if_eqB (tgt := 15) k156_5 (by decide) (fun c => False.elim (by cases c)) (fun _ => ?_)
              refine p_aload_n k156_8 rfl ?_
              refine p_cV0i k156_9 (s_98 S) c_12_287_12 (Nat.le_of_ble_eq_true rfl) (M_takesNumber S (I := (upc I 112 (upc (I 112) cl (nI (hdN (c p)))))) (p := q1) X (by omega) e2) (fun x1 m1 hq => ?_)
              obtain ⟨rfl, rfl⟩ := hq
              refine p_if_neB (tgt := 17) k156_12 (by decide) (fun _ => ?_) (fun c => False.elim (by cases c))
              refine p_aload_n k156_17 rfl ?_
              refine p_getRv k156_18 (s_98 S) f_12_77_12 (r_98_22 S) ?_
              refine p_iload_n k156_21 rfl ?_
              refine p_aload_n k156_22 rfl ?_
              refine p_getIv k156_23 (s_98 S) f_12_65_12 rfl ?_
              refine p_iastN k156_26 (s_113 S) (by omega) (by decide) ?_
              rw [e113]
              refine p_aload_n k156_27 rfl ?_
              refine p_getRv k156_28 (s_98 S) f_12_74_12 (r_98_21 S) ?_
              refine p_iload_n k156_31 rfl ?_
              refine p_ialdN k156_32 (s_112 S) (by omega) (by decide) (show _ = nI (hdN (c p)) from upc_eq _ _ _) ?_
              refine p_iconst (v := nI 2) k156_33 (by decide) ?_
              refine p_icmp_neN (tgt := 39) k156_34 (by decide) (by omega) (by omega) (fun _ => ?_) (fun c => False.elim (by omega))
              refine p_aload_n k156_39 rfl ?_
              refine p_getRv k156_40 (s_98 S) f_12_74_12 (r_98_21 S) ?_
              refine p_iload_n k156_43 rfl ?_
              refine p_ialdN k156_44 (s_112 S) (by omega) (by decide) (show _ = nI (hdN (c p)) from upc_eq _ _ _) ?_
              refine p_iconst (v := nI 2) k156_45 (by decide) ?_
              refine p_icmp_geN (tgt := 72) k156_46 (by decide) (by omega) (by omega) (fun c => False.elim (by omega)) (fun _ => ?_)
              refine p_aload_n k156_49 rfl ?_
              refine p_bipush (v := nI 32) k156_50 (by decide) ?_
              refine p_cV1i k156_52 (s_98 S) c_12_273_12 rfl (Nat.le_of_ble_eq_true rfl) (M_takes S (I := (upc (upc I 112 (upc (I 112) cl (nI (hdN (c p))))) 113 (upc ((upc I 112 (upc (I 112) cl (nI (hdN (c p))))) 113) cl (nI v)))) (p := q2) (k := 32) X (by omega) (by omega)) (fun x1 m1 hq => ?_)
              obtain ⟨rfl, rfl⟩ := hq
              rw [if_pos h32, decide_eq_true h32]
              refine p_if_eqB (tgt := 70) k156_55 (by decide) (fun c => False.elim (by cases c)) (fun _ => ?_)
              refine p_aload_n k156_58 rfl ?_
              refine p_iload_n k156_59 rfl ?_
              refine p_cV1i k156_60 (s_98 S) c_12_306_12 rfl (Nat.le_of_ble_eq_true rfl) (M_takesEN S (I := (upc (upc I 112 (upc (I 112) cl (nI (hdN (c p))))) 113 (upc ((upc I 112 (upc (I 112) cl (nI (hdN (c p))))) 113) cl (nI v)))) (p := q2 + 1) X (by omega) hcl h5 hs0 (by omega) e4) (fun x1 m1 hq => ?_)
              obtain ⟨rfl, V', S', W', O', t', g', u', w1, w2, rfl⟩ := hq
              refine p_if_eqB (tgt := 70) k156_63 (by decide) (fun _ => ?_) (fun c => False.elim (by cases c))
              refine p_iconst (v := bI false) k156_70 (by decide) ?_
              refine p_returnB k156_71 rt_156 ?_
              exact ⟨rfl, _, V', S', W', O', g', u', ((FRM.up (cl := cl) (x := 112) (by omega) (by omega)).trans (FRM.up (x := 113) (by omega) (by omega))).trans ((FRM.up (x := 115) (by omega) (by omega)).trans (FRM.up2 w1)), w2, rfl⟩
            · rw [e4] at hC
              cases hC
          · rw [if_neg hkl] at hC
            rcases e4 : pNum c (q2 + 1) with ⟨q3, _ | w⟩
            · rw [e4] at hC
              cases hC
              obtain ⟨e5, e6⟩ := pNum_none e4
              subst e5
              refine p_aload_n k156_0 rfl ?_
              refine p_iload_n k156_1 rfl ?_
              refine p_cV1i k156_2 (s_98 S) c_12_303_12 rfl (Nat.le_of_ble_eq_true rfl) (M_takesHead S X hp hcl hLT) (fun x1 m1 hq => ?_)
              obtain ⟨rfl, rfl⟩ := hq
              rw [e1]
              refine p_if_eqB (tgt := 15) k156_5 (by decide) (fun c => False.elim (by cases c)) (fun _ => ?_)
              refine p_aload_n k156_8 rfl ?_
              refine p_cV0i k156_9 (s_98 S) c_12_287_12 (Nat.le_of_ble_eq_true rfl) (M_takesNumber S (I := (upc I 112 (upc (I 112) cl (nI (hdN (c p)))))) (p := q1) X (by omega) e2) (fun x1 m1 hq => ?_)
              obtain ⟨rfl, rfl⟩ := hq
              refine p_if_neB (tgt := 17) k156_12 (by decide) (fun _ => ?_) (fun c => False.elim (by cases c))
              refine p_aload_n k156_17 rfl ?_
              refine p_getRv k156_18 (s_98 S) f_12_77_12 (r_98_22 S) ?_
              refine p_iload_n k156_21 rfl ?_
              refine p_aload_n k156_22 rfl ?_
              refine p_getIv k156_23 (s_98 S) f_12_65_12 rfl ?_
              refine p_iastN k156_26 (s_113 S) (by omega) (by decide) ?_
              rw [e113]
              refine p_aload_n k156_27 rfl ?_
              refine p_getRv k156_28 (s_98 S) f_12_74_12 (r_98_21 S) ?_
              refine p_iload_n k156_31 rfl ?_
              refine p_ialdN k156_32 (s_112 S) (by omega) (by decide) (show _ = nI (hdN (c p)) from upc_eq _ _ _) ?_
              refine p_iconst (v := nI 2) k156_33 (by decide) ?_
              refine p_icmp_neN (tgt := 39) k156_34 (by decide) (by omega) (by omega) (fun _ => ?_) (fun c => False.elim (by omega))
              refine p_aload_n k156_39 rfl ?_
              refine p_getRv k156_40 (s_98 S) f_12_74_12 (r_98_21 S) ?_
              refine p_iload_n k156_43 rfl ?_
              refine p_ialdN k156_44 (s_112 S) (by omega) (by decide) (show _ = nI (hdN (c p)) from upc_eq _ _ _) ?_
              refine p_iconst (v := nI 2) k156_45 (by decide) ?_
              refine p_icmp_geN (tgt := 72) k156_46 (by decide) (by omega) (by omega) (fun _ => ?_) (fun c => False.elim (by omega))
              refine p_aload_n k156_72 rfl ?_
              refine p_bipush (v := nI 32) k156_73 (by decide) ?_
              refine p_cV1i k156_75 (s_98 S) c_12_273_12 rfl (Nat.le_of_ble_eq_true rfl) (M_takes S (I := (upc (upc I 112 (upc (I 112) cl (nI (hdN (c p))))) 113 (upc ((upc I 112 (upc (I 112) cl (nI (hdN (c p))))) 113) cl (nI v)))) (p := q2) (k := 32) X (by omega) (by omega)) (fun x1 m1 hq => ?_)
              obtain ⟨rfl, rfl⟩ := hq
              rw [if_pos h32, decide_eq_true h32]
              refine p_if_eqB (tgt := 88) k156_78 (by decide) (fun c => False.elim (by cases c)) (fun _ => ?_)
              refine p_aload_n k156_81 rfl ?_
              refine p_cV0i k156_82 (s_98 S) c_12_287_12 (Nat.le_of_ble_eq_true rfl) (M_takesNumberN S (I := (upc (upc I 112 (upc (I 112) cl (nI (hdN (c p))))) 113 (upc ((upc I 112 (upc (I 112) cl (nI (hdN (c p))))) 113) cl (nI v)))) (p := q2 + 1) X (by omega) e6) (fun x1 m1 hq => ?_)
              obtain ⟨rfl, rfl⟩ := hq
              refine p_if_neB (tgt := 90) k156_85 (by decide) (fun c => False.elim (by cases c)) (fun _ => ?_)
              refine p_iconst (v := bI false) k156_88 (by decide) ?_
              refine p_returnB k156_89 rt_156 ?_
              exact ⟨rfl, _, _, _, _, _, g, _, (FRM.up (cl := cl) (x := 112) (by omega) (by omega)).trans (FRM.up (x := 113) (by omega) (by omega)), fun i hi => rfl, rfl⟩
            · rw [e4] at hC
              cases hC
        · rw [if_pos h32] at hC
          cases hC
          by_cases hkl : hdN (c p) < 2
          · skip
            refine p_aload_n k156_0 rfl ?_
            refine p_iload_n k156_1 rfl ?_
            refine p_cV1i k156_2 (s_98 S) c_12_303_12 rfl (Nat.le_of_ble_eq_true rfl) (M_takesHead S X hp hcl hLT) (fun x1 m1 hq => ?_)
            obtain ⟨rfl, rfl⟩ := hq
            rw [e1]
            refine p_if_eqB (tgt := 15) k156_5 (by decide) (fun c => False.elim (by cases c)) (fun _ => ?_)
            refine p_aload_n k156_8 rfl ?_
            refine p_cV0i k156_9 (s_98 S) c_12_287_12 (Nat.le_of_ble_eq_true rfl) (M_takesNumber S (I := (upc I 112 (upc (I 112) cl (nI (hdN (c p)))))) (p := q1) X (by omega) e2) (fun x1 m1 hq => ?_)
            obtain ⟨rfl, rfl⟩ := hq
            refine p_if_neB (tgt := 17) k156_12 (by decide) (fun _ => ?_) (fun c => False.elim (by cases c))
            refine p_aload_n k156_17 rfl ?_
            refine p_getRv k156_18 (s_98 S) f_12_77_12 (r_98_22 S) ?_
            refine p_iload_n k156_21 rfl ?_
            refine p_aload_n k156_22 rfl ?_
            refine p_getIv k156_23 (s_98 S) f_12_65_12 rfl ?_
            refine p_iastN k156_26 (s_113 S) (by omega) (by decide) ?_
            rw [e113]
            refine p_aload_n k156_27 rfl ?_
            refine p_getRv k156_28 (s_98 S) f_12_74_12 (r_98_21 S) ?_
            refine p_iload_n k156_31 rfl ?_
            refine p_ialdN k156_32 (s_112 S) (by omega) (by decide) (show _ = nI (hdN (c p)) from upc_eq _ _ _) ?_
            refine p_iconst (v := nI 2) k156_33 (by decide) ?_
            refine p_icmp_neN (tgt := 39) k156_34 (by decide) (by omega) (by omega) (fun _ => ?_) (fun c => False.elim (by omega))
            refine p_aload_n k156_39 rfl ?_
            refine p_getRv k156_40 (s_98 S) f_12_74_12 (r_98_21 S) ?_
            refine p_iload_n k156_43 rfl ?_
            refine p_ialdN k156_44 (s_112 S) (by omega) (by decide) (show _ = nI (hdN (c p)) from upc_eq _ _ _) ?_
            refine p_iconst (v := nI 2) k156_45 (by decide) ?_
            refine p_icmp_geN (tgt := 72) k156_46 (by decide) (by omega) (by omega) (fun c => False.elim (by omega)) (fun _ => ?_)
            refine p_aload_n k156_49 rfl ?_
            refine p_bipush (v := nI 32) k156_50 (by decide) ?_
            refine p_cV1i k156_52 (s_98 S) c_12_273_12 rfl (Nat.le_of_ble_eq_true rfl) (M_takes S (I := (upc (upc I 112 (upc (I 112) cl (nI (hdN (c p))))) 113 (upc ((upc I 112 (upc (I 112) cl (nI (hdN (c p))))) 113) cl (nI v)))) (p := q) (k := 32) X (by omega) (by omega)) (fun x1 m1 hq => ?_)
            obtain ⟨rfl, rfl⟩ := hq
            rw [if_neg h32, decide_eq_false h32]
            refine p_if_eqB (tgt := 70) k156_55 (by decide) (fun _ => ?_) (fun c => False.elim (by cases c))
            refine p_iconst (v := bI false) k156_70 (by decide) ?_
            refine p_returnB k156_71 rt_156 ?_
            exact ⟨rfl, _, _, _, _, _, g, _, (FRM.up (cl := cl) (x := 112) (by omega) (by omega)).trans (FRM.up (x := 113) (by omega) (by omega)), fun i hi => rfl, rfl⟩
          · skip
            refine p_aload_n k156_0 rfl ?_
            refine p_iload_n k156_1 rfl ?_
            refine p_cV1i k156_2 (s_98 S) c_12_303_12 rfl (Nat.le_of_ble_eq_true rfl) (M_takesHead S X hp hcl hLT) (fun x1 m1 hq => ?_)
            obtain ⟨rfl, rfl⟩ := hq
            rw [e1]
            refine p_if_eqB (tgt := 15) k156_5 (by decide) (fun c => False.elim (by cases c)) (fun _ => ?_)
            refine p_aload_n k156_8 rfl ?_
            refine p_cV0i k156_9 (s_98 S) c_12_287_12 (Nat.le_of_ble_eq_true rfl) (M_takesNumber S (I := (upc I 112 (upc (I 112) cl (nI (hdN (c p)))))) (p := q1) X (by omega) e2) (fun x1 m1 hq => ?_)
            obtain ⟨rfl, rfl⟩ := hq
            refine p_if_neB (tgt := 17) k156_12 (by decide) (fun _ => ?_) (fun c => False.elim (by cases c))
            refine p_aload_n k156_17 rfl ?_
            refine p_getRv k156_18 (s_98 S) f_12_77_12 (r_98_22 S) ?_
            refine p_iload_n k156_21 rfl ?_
            refine p_aload_n k156_22 rfl ?_
            refine p_getIv k156_23 (s_98 S) f_12_65_12 rfl ?_
            refine p_iastN k156_26 (s_113 S) (by omega) (by decide) ?_
            rw [e113]
            refine p_aload_n k156_27 rfl ?_
            refine p_getRv k156_28 (s_98 S) f_12_74_12 (r_98_21 S) ?_
            refine p_iload_n k156_31 rfl ?_
            refine p_ialdN k156_32 (s_112 S) (by omega) (by decide) (show _ = nI (hdN (c p)) from upc_eq _ _ _) ?_
            refine p_iconst (v := nI 2) k156_33 (by decide) ?_
            refine p_icmp_neN (tgt := 39) k156_34 (by decide) (by omega) (by omega) (fun _ => ?_) (fun c => False.elim (by omega))
            refine p_aload_n k156_39 rfl ?_
            refine p_getRv k156_40 (s_98 S) f_12_74_12 (r_98_21 S) ?_
            refine p_iload_n k156_43 rfl ?_
            refine p_ialdN k156_44 (s_112 S) (by omega) (by decide) (show _ = nI (hdN (c p)) from upc_eq _ _ _) ?_
            refine p_iconst (v := nI 2) k156_45 (by decide) ?_
            refine p_icmp_geN (tgt := 72) k156_46 (by decide) (by omega) (by omega) (fun _ => ?_) (fun c => False.elim (by omega))
            refine p_aload_n k156_72 rfl ?_
            refine p_bipush (v := nI 32) k156_73 (by decide) ?_
            refine p_cV1i k156_75 (s_98 S) c_12_273_12 rfl (Nat.le_of_ble_eq_true rfl) (M_takes S (I := (upc (upc I 112 (upc (I 112) cl (nI (hdN (c p))))) 113 (upc ((upc I 112 (upc (I 112) cl (nI (hdN (c p))))) 113) cl (nI v)))) (p := q) (k := 32) X (by omega) (by omega)) (fun x1 m1 hq => ?_)
            obtain ⟨rfl, rfl⟩ := hq
            rw [if_neg h32, decide_eq_false h32]
            refine p_if_eqB (tgt := 88) k156_78 (by decide) (fun _ => ?_) (fun c => False.elim (by cases c))
            refine p_iconst (v := bI false) k156_88 (by decide) ?_
            refine p_returnB k156_89 rt_156 ?_
            exact ⟨rfl, _, _, _, _, _, g, _, (FRM.up (cl := cl) (x := 112) (by omega) (by omega)).trans (FRM.up (x := 113) (by omega) (by omega)), fun i hi => rfl, rfl⟩

