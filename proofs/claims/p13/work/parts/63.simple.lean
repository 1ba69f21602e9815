section AO
variable {p : Program} {l : Launch} {e : Env} {R : Room} {s : State} {m : MethodId} {args : Array Value} {below : List Frame} {meth : Method} {c : Code} {Q : State → Prop} {sa S L : Nat} {xs : Nat → Int32} {dC : Nat → ClassId} {dI : Nat → Nat → Nat} {cT : Nat → ClassId} {y c0 s0 a b pc : Nat} {lv : am_L} {st : List Value} {hp : List am_E} {z : am_R4}
theorem am_simple_ok {i : Instr} (hck3 : ∀ n, i = .ldc n → a < 1000 ∨ (y = 56 ∧ a = 1000 ∧ pc = 12) ∨ (y = 56 ∧ a = 1001 ∧ pc = 20 ∧ b = 5)) (hf : 4 ≤ R.frames) (hlo : 400 ≤ R.locals) (C : am_Cx p s m args meth c y sa S L xs dC dI cT) (hdg : decode (am_bc y) pc = .ok (i, am_len i b)) (hck : am_chk2 (am_inf y).1 pc i a b = true) (h : am_simple L xs (am_inf y).1 (am_inf y).2.1 (am_inf y).2.2.1 i a b pc lv st hp = some z) (hR : ∀ h', am_app hp z.2.2.2 = some h' → h'.length ≤ R.cells + c0 ∧ am_sl h' ≤ R.slots + s0) (k : ∀ h', am_app hp z.2.2.2 = some h' → am_K p l e R s m args below meth c Q sa S dC dI cT y c0 s0 z.1 z.2.1 z.2.2.1 h') : am_K p l e R s m args below meth c Q sa S dC dI cT y c0 s0 pc lv st hp := by
  cases i with
  | iconst n => exact ao_iconst C hdg h k
  | bipush n => exact ao_bipush C hdg h k
  | sipush n => exact ao_sipush C hdg h k
  | lconst n => exact ao_lconst C hdg h k
  | ldc n => exact ao_ldc (hck3 n rfl) hf hlo hR C hdg hck h k
  | ldc_w n => exact ao_ldc_w C hdg hck h k
  | ldc2_w n => exact ao_ldc2_w C hdg hck h k
  | iload_n n => exact ao_iload_n C hdg h k
  | istore_n n => exact ao_istore_n C hdg h k
  | iload n => exact ao_iload C hdg h k
  | istore n => exact ao_istore C hdg h k
  | lload_n n => exact ao_lload_n C hdg h k
  | lstore_n n => exact ao_lstore_n C hdg h k
  | lload n => exact ao_lload C hdg h k
  | lstore n => exact ao_lstore C hdg h k
  | aload_n n => exact ao_aload_n C hdg h k
  | astore_n n => exact ao_astore_n C hdg h k
  | aload n => exact ao_aload C hdg h k
  | astore n => exact ao_astore C hdg h k
  | iinc n j => exact ao_iinc C hdg h k
  | dup => exact ao_dup C hdg h k
  | dup2 => exact ao_dup2 C hdg h k
  | pop => exact ao_pop C hdg h k
  | pop2 => exact ao_pop2 C hdg h k
  | iadd => exact ao_iadd C hdg h k
  | isub => exact ao_isub C hdg h k
  | imul => exact ao_imul C hdg h k
  | iand => exact ao_iand C hdg h k
  | ior => exact ao_ior C hdg h k
  | ixor => exact ao_ixor C hdg h k
  | ishl => exact ao_ishl C hdg h k
  | ishr => exact ao_ishr C hdg h k
  | iushr => exact ao_iushr C hdg h k
  | idiv => exact ao_idiv C hdg h k
  | irem => exact ao_irem C hdg h k
  | ladd => exact ao_ladd C hdg h k
  | lsub => exact ao_lsub C hdg h k
  | lmul => exact ao_lmul C hdg h k
  | land => exact ao_land C hdg h k
  | lor => exact ao_lor C hdg h k
  | ldiv => exact ao_ldiv C hdg h k
  | lrem => exact ao_lrem C hdg h k
  | lshl => exact ao_lshl C hdg h k
  | lcmp => exact ao_lcmp C hdg h k
  | i2l => exact ao_i2l C hdg h k
  | l2i => exact ao_l2i C hdg h k
  | i2b => exact ao_i2b C hdg h k
  | i2s => exact ao_i2s C hdg h k
  | iaload => exact ao_iaload C hdg h k
  | baload => exact ao_baload C hdg h k
  | laload => exact ao_laload C hdg h k
  | aaload => exact ao_aaload C hdg h k
  | iastore => exact ao_iastore C hdg h k
  | bastore => exact ao_bastore C hdg h k
  | lastore => exact ao_lastore C hdg h k
  | aastore => exact ao_aastore C hdg h k
  | arraylength => exact ao_arraylength C hdg h k
  | ifCond co off =>
    have ht := of_decide_eq_true hck
    cases co with
    | eq => exact ao_if_eq C hdg ht h k
    | ne => exact ao_if_ne C hdg ht h k
    | lt => exact ao_if_lt C hdg ht h k
    | ge => exact ao_if_ge C hdg ht h k
    | gt => exact ao_if_gt C hdg ht h k
    | le => exact ao_if_le C hdg ht h k
  | if_icmp co off =>
    have ht := of_decide_eq_true hck
    cases co with
    | eq => exact ao_icmp_eq C hdg ht h k
    | ne => exact ao_icmp_ne C hdg ht h k
    | lt => exact ao_icmp_lt C hdg ht h k
    | ge => exact ao_icmp_ge C hdg ht h k
    | gt => exact ao_icmp_gt C hdg ht h k
    | le => exact ao_icmp_le C hdg ht h k
  | goto off => exact ao_goto C hdg (of_decide_eq_true hck) h k
  | tableswitch d lo hi offs => exact ao_tsw C hdg h k
  | getfield n => exact ao_getfield C hdg hck h k
  | putfield n => exact ao_putfield C hdg hck h k
  | new n => exact ao_new C hdg hck hR h k
  | newarray t =>
    cases t with
    | int => exact ao_newarray_int C hdg hck hR h k
    | byte => exact ao_newarray_byte C hdg hck hR h k
    | long => exact ao_newarray_long C hdg hck hR h k
    | _ => cases hck
  | anewarray n => exact ao_anewarray C hdg hck hR h k
  | _ =>
    have h9 : (none : Option am_R4) = some z := h
    cases h9
end AO
