/-! STRING CONSTANTS: a call on a constant -/
section ZWORD4
variable {p : Program} {l : Launch} {e : Env} {R : Room} {s : State} {m : MethodId} {args : Array Value} {below : List Frame} {meth : Method} {c : Code} {D : va_G} {ad : Nat → Nat} {cA : Nat → ClassId} {n nL : Nat} {cc : ByteArray} {o : Nat} {own : String} {Qm : Array Value → State → Outcome → State → Prop} {pc : Nat} {L : zL} {S : List Value} {h : zH}
theorem z_preJ {H : Heap} {locs : List Loc} {vs : List Value} (C : zCx own cc nL D ad cA n p s m meth c) (hP : va_P D vwCl (zw ad cA h) H) (hS : va_S (zA ad n) s.heap H locs) (U : State) (hU : U.heap = H) (hW : s.WarmedH U.vm) : zPj D ad cA n h vs vs.toArray U := by
  refine ⟨rfl, zWd_warm hW C.2.2.2.2.1, va_K.moved hW.alike C.2.2.2.2.2.1, by rw [hU]; exact hP, ?_⟩
  rw [hU]
  exact zSt_warm hW (zSt_kept (fun a h1 h2 => hS.2.1 a h1 h2) C.2.2.2.2.2.2.2.1)
end ZWORD4
