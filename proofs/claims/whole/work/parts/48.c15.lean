/-! the class: gust -/
/-- what a call on the scene leaves as it was, scratch aside -/
def FRS (I I2 : Nat → Nat → Int32) : Prop := (∀ c, c = 0 ∨ 13 < c → c < 39 ∨ 43 < c → I2 c = I c) ∧ ∀ k, k ≠ 0 → k ≠ 4 → k ≠ 9 → k ≠ 11 → k ≠ 14 → k ≠ 17 → I2 1 k = I 1 k
theorem FRC.frs {I I2 : Nat → Nat → Int32} (H : FRC I I2) : FRS I I2 := ⟨fun c h _ => H.1 c h, H.2⟩
theorem fGuB_out {w : Nat → Int32} {gg nh q : Nat} (hq : nh ≤ q) : ∀ (j k : Nat) (b : Nat → Int32), k + j = nh → fld (fGuB w gg nh) j k b q = b q := by
  intro j
  induction j with
  | zero => intro k b hk; rfl
  | succ j ih =>
    intro k b hk
    have h2 := Nat.mod_lt (k + gg) (show 0 < nh by omega)
    exact (ih (k + 1) _ (by omega)).trans (upc_ne _ _ (by omega))
theorem gusC_V {I : Nat → Nat → Int32} {gg nh : Nat} (h6 : nh ≤ 6) (hg : gg < 6) {b : Nat → Int32} (hb : b = I 101) : fld (fGuB (I 101) gg nh) nh 0 b = gusW I gg nh := by
  rw [gusW_V h6 hg, hb]
  funext q
  unfold gusV
  by_cases hq : q < nh
  · rw [if_pos hq]
    obtain ⟨h1, h2⟩ := gu_to h6 hg hq
    have h3 := fGuB_at (w := I 101) h6 hg nh 0 (I 101) (by omega) (fun m hm => by omega) _ h1
    rw [h2] at h3
    exact h3
  · rw [if_neg hq]
    exact fGuB_out (by omega) nh 0 _ (by omega)
theorem CE.gus {I R : Nat → Nat → Int32} (E : CE I R) {gg nh : Nat} {P : Nat → Int32} : CE (upc (upc I 43 P) 4 (gusW R gg nh)) (gusI R gg nh) := ⟨E.heads, E.hats, E.day, E.seen, E.booked, E.town, E.a2, E.a3, rfl, E.a6, E.a7, E.a8, E.a9, E.a10, E.a11, E.a12, E.a13⟩
theorem FRS.gus (I : Nat → Nat → Int32) (P W : Nat → Int32) : FRS I (upc (upc I 43 P) 4 W) := ⟨fun c h1 h2 => (upc_ne _ _ (by omega)).trans (upc_ne _ _ (by omega)), fun _ _ _ _ _ _ _ => rfl⟩
set_option maxRecDepth 100000 in
set_option maxHeartbeats 4000000 in
theorem C_gust {d : Nat} {I : Nat → Nat → Int32} {J : Nat → Nat → Int64} {K : Nat → Nat → Option Nat} {h : List xSh} (S : St K h) {R0 : Nat → Nat → Int32} {nh na dd cb ce tw : Nat} (C : CR I K h R0 na tw) (M : MI R0 nh na dd cb ce) (Q : AR R0 nh na dd) (v : Int32) : EvP (d + 2) 68 0 [(0, .ref (0)), (1, .int (v))] [] (I, J, K, h) (QI (fun x t => x = (gustM R0 nh v).1 ∧ ∃ I2, t = (I2, J, K, h) ∧ CE I2 (gustM R0 nh v).2 ∧ FRS I I2)) := by
  have hnh6 := M.nh6
  have hna6 := M.na6
  refine p_iload_n k68_0 rfl ?_
  refine p_cS1i k68_1 c_11_216 rfl (Nat.le_of_ble_eq_true rfl) (C_isGust S (v)) (fun x1 m1 hq => ?_)
  obtain ⟨rfl, rfl⟩ := hq
  refine p_if_neB (tgt := 10) k68_4 (by decide) (fun cq4 => ?_) (fun cq4 => ?_)
  · skip
    obtain ⟨gg, hgg, rfl⟩ := inB_of0 (by decide) cq4
    have hcg := nI_clamp (n := gg) (by omega)
    have hE : gustM R0 nh (nI gg) = (nI (gusN R0 nh), gusI R0 gg nh) := by unfold gustM; rw [if_pos cq4, hcg]
    refine p_aload_n k68_10 rfl ?_
    refine p_getRv k68_11 (s_0 S) f_11_14_11 (r_0_0 S) ?_
    refine p_getRv k68_14 (s_1 S) f_11_98_3 (r_1_3 S) ?_
    refine p_iconst (v := nI 0) k68_17 (by decide) ?_
    refine p_aload_n k68_18 rfl ?_
    refine p_getRv k68_19 (s_0 S) f_11_81_11 (r_0_14 S) ?_
    refine p_iconst (v := nI 0) k68_22 (by decide) ?_
    refine p_bipush (v := nI 6) k68_23 (by decide) ?_
    refine p_cpyi k68_25 (by decide) (Nat.le_of_ble_eq_true rfl) (s_4 S) (s_43 S) (by decide) (by decide) (by decide) (by decide) (by decide) ?_
    have hP : ∀ k, k < 6 → va_cpy (I 4) (I 43) (nI 0).toNatClampNeg (nI 0).toNatClampNeg (nI 6).toNatClampNeg k = R0 101 k := fun k hk => by rw [show (nI 0).toNatClampNeg = 0 from rfl, show (nI 6).toNatClampNeg = 6 from rfl]; unfold va_cpy; rw [if_pos (by omega), C.a4]; congr 1; omega
    generalize va_cpy (I 4) (I 43) (nI 0).toNatClampNeg (nI 0).toNatClampNeg (nI 6).toNatClampNeg = P at hP ⊢
    refine p_iconst (v := nI 0) k68_28 (by decide) ?_
    refine p_istore_n (ls' := [(0, _), (1, _), (2, _)]) k68_29 rfl ?_
    refine p_iconst (v := nI 0) k68_30 (by decide) ?_
    refine p_istore_n (ls' := [(0, _), (1, _), (2, _), (3, _)]) k68_31 rfl ?_
    have L : ∀ (j : Nat) (k n : Nat) (u : Nat → Int32), k + j = nh → fld (fGuB (R0 101) gg nh) j k u = (gusW R0 gg nh) → fld (fGuN (R0 101)) j k n = gusN R0 nh → EvP (d + 2) 68 32 [(0, .ref (0)), (1, .int (nI (gg))), (2, .int (nI (n))), (3, .int (nI (k)))] [] (upc (upc I 43 P) 4 u, J, K, h) (QI (fun x t => x = (gustM R0 nh (nI gg)).1 ∧ ∃ I2, t = (I2, J, K, h) ∧ CE I2 (gustM R0 nh (nI gg)).2 ∧ FRS I I2)) := by
      intro j
      induction j with
      | zero =>
        intro k n u hk
        intro hu hn
        have hu2 : u = (gusW R0 gg nh) := hu
        have hn2 : n = gusN R0 nh := hn
        subst hu2; subst hn2
        refine p_iload_n k68_32 rfl ?_
        refine p_aload_n k68_33 rfl ?_
        refine p_getRv k68_34 (s_0 S) f_11_14_11 (r_0_0 S) ?_
        refine p_getIv k68_37 (s_1 S) f_11_89_3 (show _ = nI nh from C.heads.trans M.nh) ?_
        refine p_icmp_geN (tgt := 87) k68_40 (by decide) (by omega) (by omega) (fun _ => ?_) (fun c => False.elim (by omega))
        refine p_iload_n k68_87 rfl ?_
        refine p_ireturn k68_88 rt_68 ?_
        rw [hE]
        exact ⟨rfl, _, rfl, C.ce.gus, FRS.gus I P _⟩
      | succ j ih =>
        intro k n u hk
        intro hu hn
        refine p_iload_n k68_32 rfl ?_
        refine p_aload_n k68_33 rfl ?_
        refine p_getRv k68_34 (s_0 S) f_11_14_11 (r_0_0 S) ?_
        refine p_getIv k68_37 (s_1 S) f_11_89_3 (show _ = nI nh from C.heads.trans M.nh) ?_
        refine p_icmp_geN (tgt := 87) k68_40 (by decide) (by omega) (by omega) (fun c => False.elim (by omega)) (fun _ => ?_)
        refine p_aload_n k68_43 rfl ?_
        refine p_getRv k68_44 (s_0 S) f_11_14_11 (r_0_0 S) ?_
        refine p_getRv k68_47 (s_1 S) f_11_98_3 (r_1_3 S) ?_
        refine p_iload_n k68_50 rfl ?_
        refine p_iload_n k68_51 rfl ?_
        refine p_iaddN k68_52 ?_
        refine p_aload_n k68_53 rfl ?_
        refine p_getRv k68_54 (s_0 S) f_11_14_11 (r_0_0 S) ?_
        refine p_getIv k68_57 (s_1 S) f_11_89_3 (show _ = nI nh from C.heads.trans M.nh) ?_
        refine p_iremN (by omega) (by omega) (by omega) k68_60 ?_
        refine p_aload_n k68_61 rfl ?_
        refine p_getRv k68_62 (s_0 S) f_11_81_11 (r_0_14 S) ?_
        refine p_iload_n k68_65 rfl ?_
        refine p_ialdN k68_66 (s_43 S) (by omega) (by decide) (show _ = R0 101 k from hP k (by omega)) ?_
        refine p_iastN k68_67 (s_4 S) (by have := Nat.mod_lt (k + gg) (show 0 < nh by omega); omega) (by decide) ?_
        refine p_aload_n k68_68 rfl ?_
        refine p_getRv k68_69 (s_0 S) f_11_81_11 (r_0_14 S) ?_
        refine p_iload_n k68_72 rfl ?_
        refine p_ialdN k68_73 (s_43 S) (by omega) (by decide) (show _ = R0 101 k from hP k (by omega)) ?_
        refine p_iconst (v := (-1)) k68_74 (by decide) ?_
        refine p_icmp_eq (tgt := 81) k68_75 (by decide) (fun cq75 => ?_) (fun cq75 => ?_)
        · skip
          refine p_iincN (ls1 := [(0, _), (1, _), (2, _), (3, _)]) k68_81 rfl rfl ?_
          refine p_goto (tgt := 32) k68_84 (by decide) ?_
          rw [upc_uu, upc_eq]
          exact ih (k + 1) _ _ (by omega) hu (by rw [← hn]; exact congrArg (fld (fGuN (R0 101)) j (k + 1)) (by unfold fGuN; first | (rw [if_pos ((worn_lt (M.wornO (show k < nh by omega))).2 cq75)]; rfl) | rw [if_neg (fun z => cq75 ((worn_lt (M.wornO (show k < nh by omega))).1 z))]))
        · skip
          refine p_iincN (ls1 := [(0, _), (1, _), (2, _), (3, _)]) k68_78 rfl rfl ?_
          refine p_iincN (ls1 := [(0, _), (1, _), (2, _), (3, _)]) k68_81 rfl rfl ?_
          refine p_goto (tgt := 32) k68_84 (by decide) ?_
          rw [upc_uu, upc_eq]
          exact ih (k + 1) _ _ (by omega) hu (by rw [← hn]; exact congrArg (fld (fGuN (R0 101)) j (k + 1)) (by unfold fGuN; first | (rw [if_pos ((worn_lt (M.wornO (show k < nh by omega))).2 cq75)]; rfl) | rw [if_neg (fun z => cq75 ((worn_lt (M.wornO (show k < nh by omega))).1 z))]))
    refine p_self 4 ?_
    exact L nh 0 0 _ (by omega) (gusC_V hnh6 (by omega) C.a4) rfl
  · skip
    refine p_bipush (v := (-2)) k68_7 (by decide) ?_
    refine p_ireturn k68_9 rt_68 ?_
    rw [show gustM R0 nh v = (-2, R0) from by unfold gustM; rw [if_neg (by rw [cq4]; decide)]]
    exact ⟨rfl, _, rfl, C.ce, (FRC.refl I).frs⟩

