/-! P27 8: the end of a method that takes the object on -/
section LQ
variable {p : Program} {l : Launch} {e : Env} {R : Room} {s : State} {m : MethodId} {args : Array Value} {below : List Frame} {meth : Method} {c : Code} {H : Heap} {locs : List Loc} {cells slots : Nat} {Q : State → Prop}
variable {pc : Nat} {ls : Array Slot} {A0 : Nat → Prop} {D : va_G} {k : Nat → ClassId}
/-- the end of such a method, whatever is asked behind it being named Q -/
theorem rt_zq {cc : ByteArray} {v : Int32} {A : Nat → Prop} {X' : va_W} {P : Int32 → va_W → Prop} {mc ms : Nat} (hQ : Q = MQ below (va_Qi P (fun (X' : va_W) (t : State) => va_P D vwCl X' t.heap ∧ va_D A X') A) args s mc ms A) (h1 : cells = mc) (h2 : slots = ms) (hx : p.tables.exec = Jvm.exec) (hb : c.code = cc) (hr : meth.sig.returnType = some .boolean) (hlocks : meth.locks = false) (hS : va_S A s.heap H locs) (hd : decode cc pc = .ok (.ireturn, 1)) (hP : va_P D vwCl X' H) (hD : va_D A X') (hn : narrow .boolean (.int v) = .int v) (hv : P v X') :
    W p l e R s m args below meth c H locs cells slots Q (F0 m pc ls [.int v]) := by
  subst hQ
  subst h1
  subst h2
  exact rt_zo hx hb hr hlocks hS hd hP hD hn hv
end LQ
