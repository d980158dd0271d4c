/-! A call that is known not to be refused. -/
section KSU
variable {p : Program} {l : Launch} {e : Env} {R : Room} {s : State} {m : MethodId} {args : Array Value} {below : List Frame} {meth : Method} {c : Code} {H : Heap} {locs : List Loc} {cells slots : Nat} {Q : State → Prop}
variable {cc : ByteArray} {pc : Nat} {ls : Array Slot} {rest : List Value} {D : va_G} {cy : Nat → ClassId} {base : Nat → Prop} {ad : Nat → Nat} {n nc : Nat} {g : sg} {mc1 ms1 : Nat} {st0 : List Value} {a : Array Value} {X1 : String → Prop}
theorem kx_sure {ok : Prop} {v0 v1 : Int32} {g1 g2 : sg} (hr : vx_Run p l e R s m args below meth c H locs cells slots mc1 ms1 (F0 m pc ls st0) rest (kQ D cy base (kD ok (some (.int v0)) ad n nc g1) a) (kX D cy base ad n nc g X1) (kA base)) (hS : va_S (kA base) s.heap H locs) (hX : ∀ E, X1 E → False) (hv : v0 = v1) (hg : g1 = g2)
    (kk : ∀ (H1 : Heap) (locs1 : List Loc), kW D cy base ad n nc g2 H1 → va_S (kA base) s.heap H1 locs1 → W p l e R s m args below meth c H1 locs1 (cells + mc1) (slots + ms1) Q (F0 m (pc + 3) ls (.int v1 :: rest))) : W p l e R s m args below meth c H locs cells slots Q (F0 m pc ls st0) := by
  subst hv; subst hg
  refine kx_call hr hS (fun E _ _ _ _ h => (hX E h).elim) (fun v u H1 locs1 hp hw1 hS1 => ?_)
  obtain ⟨-, rfl, rfl⟩ := hp
  exact kk H1 locs1 hw1 hS1
end KSU
