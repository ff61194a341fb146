/-! the room at the end, the first memory -/
theorem W_up {p : Program} {l : Launch} {e : Env} {R : Room} {s : State} {m : MethodId} {args : Array Value} {below : List Frame} {meth : Method} {c : Code} {H : Heap} {locs : List Loc} {cells slots cells' slots' : Nat} {Q : State → Prop} {g : JFrame} (hc : cells ≤ cells') (hs : slots ≤ slots') (k : W p l e R s m args below meth c H locs cells' slots' Q g) : W p l e R s m args below meth c H locs cells slots Q g := fun T hT X => k T hT { X with same := X.same.mono hc hs }
/-- the script's cells and no others -/
def I00 (L : Nat) (xs : Nat → Int32) : Nat → Nat → Int32 := fun c k => if c = 1000000 then xs k else if c = 1000001 then nI L else 0
theorem XR_00 {b : Nat} {ex : Nat → Nat} {aC : FieldType → ClassId} {D : va_G} {L : Nat} {xs : Nat → Int32} {H : Heap} (hH : H.size = b) : XR b ex aC D L xs (I00 L xs, fun _ _ => 0, fun _ _ => none, []) H := by
  refine ⟨fun k q h => ?_, by rw [hH]; rfl, Nat.zero_le _, rfl, rfl⟩
  cases h
/-- the walk of the law, once what the tables say of the machine stands -/
theorem xstart {p : Program} {e : Env} {s : State} {m : MethodId} {below : List Frame} {meth : Method} {c : Code} {l : Launch} {b L : Nat} {xs : Nat → Int32} {ex : Nat → Nat} {aC : FieldType → ClassId} {D : va_G} {M : xMe} {Q : State → Prop} (hM : xM[244]? = some M) (hL : L ≤ 3072) (hex : ex 0 = b) (C : xCtx s.heap.size ex aC D L xs M 21 p room_1 s m #[Value.ref b] meth c) (lsA : Array Slot) (hl : lv_has lsA M.2.2.2.1 (xcl s.heap.size ex [(0, .ref 1000000)])) (hend : ∀ (pc' : Nat) (H' : Heap) (ls' : Array Slot), xretI M pc' (some (.int 1)) → W p l e room_1 s m #[Value.ref b] below meth c H' [] 600000 7302250 Q (F0 m pc' ls' [.int 1])) : W p l e room_1 s m #[Value.ref b] below meth c s.heap [] 0 0 Q (F0 m 0 lsA []) := by
  obtain ⟨r, t, hE, x, rfl, rfl, h1, h2⟩ := LAW_0 (d := 0) (n := L) (sc := xs) hL (I := I00 L xs) rfl rfl
  have X := Ev_XP (b := s.heap.size) (ex := ex) (aC := aC) (D := D) (L := L) (xs := xs) (l := l) hE
  refine X.2 M hM p e room_1 s m #[Value.ref b] below meth c _ s.heap [] 0 0 lsA C (XR_00 rfl) rfl va_S.rf ?_ ?_ hl (fun pc' H' locs' ls' _ g2 g3 => ?_)
  · show 0 + (t.2.2.2.length - 0) ≤ 600000
    omega
  · show 0 + (xsz t.2.2.2 - 0) ≤ 7302250
    omega
  · refine va_forget (fun q hq => g2.2.2 q hq) ?_
    refine W_up (cells' := 600000) (slots' := 7302250) ?_ ?_ (hend pc' H' ls' g3)
    · show 0 + (t.2.2.2.length - 0) ≤ 600000
      omega
    · show 0 + (xsz t.2.2.2 - 0) ≤ 7302250
      omega
