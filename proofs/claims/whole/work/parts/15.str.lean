/-! String.length, String.charAt of a String constant -/
section AXS
variable {p : Program} {l : Launch} {e : Env} {R : Room} {s : State} {mi : MethodId} {args : Array Value} {below : List Frame} {meth : Method} {c : Code} {Q : State → Prop} {cc : ByteArray} {D : va_G} {base : Nat} {ad : Int → Nat} {nL n0 s0 : Nat}
theorem as_slen (hx : p.tables.exec = Jvm.exec) (hb : c.code = cc) (hts : ∀ w ∈ ax_tt, w.before args s = true) (hml : c.maxLocals = nL) (hRf : 1 ≤ R.frames) (hRl : 200 ≤ R.locals) (hRf2 : 8 ≤ R.frames ∧ 512 ≤ R.locals) (hSP : ax_SP base ad s s.heap) {o idx : Nat} (hown : s.vm.findClass (ax_ow o) = some mi.cls) (hX : ax_X o idx = some 5) {pc : Nat} {ls r : List ax_V} {H : ax_H} {a : Int} (hlen : r.length ≤ 5) (h1 : a ≤ -2) (h2 : -2 - a < ax_Sb.length) (hrc : H.1.length ≤ n0 + R.cells) (hrs : ax_sl H.1 ≤ s0 + R.slots) (hd : decode cc pc = .ok (.invokevirtual idx, 3))
    (kk : ax_G p l e R s mi args below meth c Q D base ad nL n0 s0 (pc + 3) ls ((0, ax_slen a) :: r) H) : ax_G p l e R s mi args below meth c Q D base ad nL n0 s0 pc ls ((2, a) :: r) H := by
  sorry
theorem as_schr (hx : p.tables.exec = Jvm.exec) (hb : c.code = cc) (hts : ∀ w ∈ ax_tt, w.before args s = true) (hml : c.maxLocals = nL) (hRf : 1 ≤ R.frames) (hRl : 200 ≤ R.locals) (hRf2 : 8 ≤ R.frames ∧ 512 ≤ R.locals) (hSP : ax_SP base ad s s.heap) {o idx : Nat} (hown : s.vm.findClass (ax_ow o) = some mi.cls) (hX : ax_X o idx = some 6) {pc : Nat} {ls r : List ax_V} {H : ax_H} {a j : Int} (hlen : r.length ≤ 4) (h1 : a ≤ -2) (h2 : -2 - a < ax_Sb.length) (h3 : 0 ≤ j) (h4 : j < ax_slen a) (hrc : H.1.length ≤ n0 + R.cells) (hrs : ax_sl H.1 ≤ s0 + R.slots) (hd : decode cc pc = .ok (.invokevirtual idx, 3))
    (kk : ax_G p l e R s mi args below meth c Q D base ad nL n0 s0 (pc + 3) ls ((0, ax_schr a j) :: r) H) : ax_G p l e R s mi args below meth c Q D base ad nL n0 s0 pc ls ((0, j) :: (2, a) :: r) H := by
  sorry
end AXS
