/-! the run by symbols: numbers as naturals (2^31 added), references by names, unknown numbers by symbols with bounds; made for the kernel: each step hands on what is already a number or a list -/
abbrev sV : Type := Nat ⊕ (Nat ⊕ (Nat ⊕ (Nat ⊕ (Nat ⊕ (Nat ⊕ Nat)))))
abbrev sC : Type := (Nat × Nat × List (List sV)) ⊕ ((Nat × List sV) ⊕ (Nat × Nat × List (Nat × sV)))
abbrev sH : Type := List (List (List sC))
abbrev sE : Type := List (Nat × Nat × List Nat)
abbrev sB : Type := Nat × Nat × Nat × List Nat
abbrev sF : Type := Nat × Nat × List sV × List sV × List (Nat × Nat × Nat)
abbrev sX : Type := List sF × sH × sE × sB
abbrev sK : Type := List sV → List sV → sX → Bool
abbrev sR : Type := Nat → Nat → sK
noncomputable section
def kB (b t f : Bool) : Bool := Bool.rec (motive := fun _ => Bool) f t b
def kGet {α : Type} (l : List α) (i : Nat) (k : α → Bool) : Bool := List.rec (motive := fun _ => Nat → Bool) (fun _ => false) (fun a _ ih i => Nat.rec (motive := fun _ => Bool) (k a) (fun j _ => ih j) i) l i
def kSet {α : Type} (l : List α) (i : Nat) (v : α) (k : List α → Bool) : Bool := List.rec (motive := fun _ => Nat → (List α → Bool) → Bool) (fun _ _ => false) (fun a t ih i k => Nat.rec (motive := fun _ => Bool) (k (v :: t)) (fun j _ => ih j (fun t' => k (a :: t'))) i) l i k
def kPop {α : Type} (l : List α) (k : α → List α → Bool) : Bool := List.rec (motive := fun _ => Bool) false (fun a t _ => k a t) l
def kNil {α : Type} (l : List α) (b : Bool) : Bool := List.rec (motive := fun _ => Bool) b (fun _ _ _ => false) l
def kFrc (n : Nat) (k : Nat → Bool) : Bool := Nat.rec (motive := fun _ => Bool) (k 0) (fun j _ => k (Nat.succ j)) n
def kI (v : sV) (k : Nat → Bool) : Bool := Sum.rec (motive := fun _ => Bool) k (fun _ => false) v
def kV (v : sV) (fi fr fs fp fl fd fx : Nat → Bool) : Bool := Sum.rec (motive := fun _ => Bool) fi (fun v => Sum.rec (motive := fun _ => Bool) fr (fun v => Sum.rec (motive := fun _ => Bool) fs (fun v => Sum.rec (motive := fun _ => Bool) fp (fun v => Sum.rec (motive := fun _ => Bool) fl (fun v => Sum.rec (motive := fun _ => Bool) fd fx v) v) v) v) v) v
def kA2 (v : Nat ⊕ (Nat ⊕ (Nat ⊕ (Nat ⊕ Nat)))) (fp : Nat → Bool) : Bool := Sum.rec (motive := fun _ => Bool) (fun _ => false) (fun v => Sum.rec (motive := fun _ => Bool) fp (fun _ => false) v) v
def kA (v : sV) (fr fp : Nat → Bool) : Bool := Sum.rec (motive := fun _ => Bool) (fun _ => false) (fun v => Sum.rec (motive := fun _ => Bool) fr (fun v => kA2 v fp) v) v
def kLo (v : sV) (k : Nat → Bool) : Bool := kV v (fun _ => false) (fun _ => false) (fun _ => false) (fun _ => false) k (fun _ => false) (fun _ => false)
def kDo (v : sV) (k : Nat → Bool) : Bool := kV v (fun _ => false) (fun _ => false) (fun _ => false) (fun _ => false) (fun _ => false) (fun d => Nat.rec (motive := fun _ => Bool) false (fun d _ => k d) d) (fun _ => false)
/-- any whole number of 32 bits; any reference; of one word; of two -/
def kIs2 (v : Nat ⊕ (Nat ⊕ (Nat ⊕ (Nat ⊕ (Nat ⊕ Nat))))) (b : Bool) : Bool := Sum.rec (motive := fun _ => Bool) (fun _ => false) (fun v => Sum.rec (motive := fun _ => Bool) (fun _ => b) (fun v => Sum.rec (motive := fun _ => Bool) (fun _ => false) (fun v => Sum.rec (motive := fun _ => Bool) (fun _ => false) (fun v => Sum.rec (motive := fun _ => Bool) (fun _ => false) (fun _ => b) v) v) v) v) v
def kIs (v : sV) (b : Bool) : Bool := Sum.rec (motive := fun _ => Bool) (fun _ => b) (fun v => kIs2 v b) v
def kAs (v : sV) (b : Bool) : Bool := kA v (fun _ => b) (fun _ => b)
def kTw3 (v : Nat ⊕ (Nat ⊕ Nat)) (b c : Bool) : Bool := Sum.rec (motive := fun _ => Bool) (fun _ => b) (fun v => Sum.rec (motive := fun _ => Bool) (fun d => Nat.rec (motive := fun _ => Bool) c (fun _ _ => b) d) (fun _ => c) v) v
def kTw2 (v : Nat ⊕ (Nat ⊕ (Nat ⊕ (Nat ⊕ Nat)))) (b c : Bool) : Bool := Sum.rec (motive := fun _ => Bool) (fun _ => c) (fun v => Sum.rec (motive := fun _ => Bool) (fun _ => c) (fun v => kTw3 v b c) v) v
def kTw (v : sV) (b c : Bool) : Bool := Sum.rec (motive := fun _ => Bool) (fun _ => c) (fun v => Sum.rec (motive := fun _ => Bool) (fun _ => c) (fun v => kTw2 v b c) v) v
def kG2 (T : List (List sV)) (i : Nat) (k : sV → Bool) : Bool := kGet T (Nat.div i 16) (fun c => kGet c (Nat.mod i 16) k)
def kS2 (T : List (List sV)) (i : Nat) (v : sV) (k : List (List sV) → Bool) : Bool := kGet T (Nat.div i 16) (fun c => kSet c (Nat.mod i 16) v (fun c => kSet T (Nat.div i 16) c k))
def kH (H : sH) (n : Nat) (k : sC → Bool) : Bool := kGet H (Nat.div n 64) (fun a => kGet a (Nat.mod (Nat.div n 8) 8) (fun b => kGet b (Nat.mod n 8) k))
def kHs (H : sH) (n : Nat) (c : sC) (k : sH → Bool) : Bool := kGet H (Nat.div n 64) (fun a => kGet a (Nat.mod (Nat.div n 8) 8) (fun b => kSet b (Nat.mod n 8) c (fun b => kSet a (Nat.mod (Nat.div n 8) 8) b (fun a => kSet H (Nat.div n 64) a k))))
def kC (c : sC) (fa : Nat → Nat → List (List sV) → Bool) (fo : Nat → List sV → Bool) (fq : Nat → Nat → List (Nat × sV) → Bool) : Bool := Sum.rec (motive := fun _ => Bool) (fun p => Prod.rec (motive := fun _ => Bool) (fun t p => Prod.rec (motive := fun _ => Bool) (fun n T => fa t n T) p) p) (fun c => Sum.rec (motive := fun _ => Bool) (fun p => Prod.rec (motive := fun _ => Bool) (fun ci fs => fo ci fs) p) (fun p => Prod.rec (motive := fun _ => Bool) (fun t p => Prod.rec (motive := fun _ => Bool) (fun n es => fq t n es) p) p) c) c
def kCa (c : sC) (t : Nat) (k : Nat → List (List sV) → Bool) : Bool := kC c (fun u n T => kB (Nat.beq u t) (k n T) false) (fun _ _ => false) (fun _ _ _ => false)
def kCo (c : sC) (x : Nat) (k : List sV → Bool) : Bool := kC c (fun _ _ _ => false) (fun u fs => kB (Nat.beq u x) (k fs) false) (fun _ _ _ => false)
def kEl (E : sE) (j : Nat) (k : Nat → Nat → List Nat → Bool) : Bool := kGet E j (fun p => Prod.rec (motive := fun _ => Bool) (fun lo p => Prod.rec (motive := fun _ => Bool) (fun hi ex => k lo hi ex) p) p)
def kMem (v : Nat) (ex : List Nat) (t f : Bool) : Bool := List.rec (motive := fun _ => Bool) f (fun a _ ih => kB (Nat.beq a v) t ih) ex
/-- a symbol's values one by one -/
def kEn (n : Nat) (v : Nat) (ex : List Nat) (E : sE) (j : Nat) (k : Nat → sE → Bool) : Bool := Nat.rec (motive := fun _ => Nat → Bool) (fun _ => true) (fun _ ih v => kB (kMem v ex true (kSet E j (v, v, []) (fun E => k v E))) (kFrc (Nat.add v 1) ih) false) n v
/-- a number: what it is, or each that it may be -/
def kRes (v : sV) (E : sE) (k : Nat → sE → Bool) : Bool := kV v (fun e => kB (Nat.ble e 4294967295) (k e E) false) (fun _ => false)
  (fun j => kEl E j (fun lo hi ex => kB (Nat.beq lo hi) (k lo E) (kB (Nat.ble (Nat.sub hi lo) 300) (kEn (Nat.add (Nat.sub hi lo) 1) lo ex E j k) false))) (fun _ => false) (fun _ => false) (fun _ => false) (fun _ => false)
/-- a number's bounds -/
def kRg (v : sV) (E : sE) (k : Nat → Nat → Bool) : Bool := kV v (fun e => kB (Nat.ble e 4294967295) (k e e) false) (fun _ => false) (fun j => kEl E j (fun lo hi _ => k lo hi)) (fun _ => false) (fun _ => false) (fun _ => false) (fun _ => false)
/-- a number, or a symbol that may be several -/
def kNm (v : sV) (E : sE) (ki : Nat → Bool) (ks : Nat → Nat → Nat → List Nat → Bool) : Bool := kV v (fun e => kB (Nat.ble e 4294967295) (ki e) false) (fun _ => false) (fun j => kEl E j (fun lo hi ex => kB (Nat.beq lo hi) (ki lo) (ks j lo hi ex))) (fun _ => false) (fun _ => false) (fun _ => false) (fun _ => false)
def kLt (u v : sV) (E : sE) (kt kf : sE → Bool) : Bool := kNm u E
  (fun a => kNm v E (fun b => kB (Nat.ble (Nat.add a 1) b) (kt E) (kf E)) (fun j lo hi ex => kB (Nat.ble hi a) (kf E) (kB (Nat.ble (Nat.add a 1) lo) (kt E) (kB (kFrc (Nat.add a 1) (fun a1 => kSet E j (a1, hi, ex) kt)) (kSet E j (lo, a, ex) kf) false))))
  (fun j lo hi ex => kNm v E (fun b => kB (Nat.ble b lo) (kf E) (kB (Nat.ble (Nat.add hi 1) b) (kt E) (kB (kFrc (Nat.sub b 1) (fun b1 => kSet E j (lo, b1, ex) kt)) (kSet E j (b, hi, ex) kf) false))) (fun _ _ _ _ => false))
def kEs (j lo hi : Nat) (ex : List Nat) (b : Nat) (E : sE) (kt kf : sE → Bool) : Bool := kB (Nat.ble (Nat.add b 1) lo) (kf E) (kB (Nat.ble (Nat.add hi 1) b) (kf E) (kMem b ex (kf E) (kB (kSet E j (b, b, []) kt) (kSet E j (lo, hi, b :: ex) kf) false)))
def kEq (u v : sV) (E : sE) (kt kf : sE → Bool) : Bool := kNm u E
  (fun a => kNm v E (fun b => kB (Nat.beq a b) (kt E) (kf E)) (fun j lo hi ex => kEs j lo hi ex a E kt kf))
  (fun j lo hi ex => kNm v E (fun b => kEs j lo hi ex b E kt kf) (fun _ _ _ _ => false))
def kCm (c : ClassFile.Cond) (u v : sV) (E : sE) (kt kf : sE → Bool) : Bool := match c with
  | .eq => kEq u v E kt kf
  | .ne => kEq u v E kf kt
  | .lt => kLt u v E kt kf
  | .ge => kLt u v E kf kt
  | .gt => kLt v u E kt kf
  | .le => kLt v u E kf kt
/-- a place of a row of n things -/
def kIx (e n : Nat) (k : Nat → Bool) : Bool := kB (Nat.ble 2147483648 e) (kFrc (Nat.sub e 2147483648) (fun i => kB (Nat.ble (Nat.add i 1) n) (k i) false)) false
/-- words of a stack, at most 8 -/
def kCt (S : List sV) (b : Bool) : Bool := List.rec (motive := fun _ => Nat → Bool) (fun n => kB (Nat.ble n 8) b false) (fun v _ ih n => kTw v (ih (Nat.add n 2)) (ih (Nat.add n 1))) S 0
/-- a thing made -/
def kAl (c : sC) (sz : Nat) (H : sH) (B : sB) (k : Nat → sH → sB → Bool) : Bool := Prod.rec (motive := fun _ => Bool) (fun n B => Prod.rec (motive := fun _ => Bool) (fun ce B => Prod.rec (motive := fun _ => Bool) (fun sl tb => kB (Nat.ble ce 800000) (kHs H n c (fun H => kFrc (Nat.add n 1) (fun n1 => kFrc (Nat.add ce 1) (fun ce => kFrc (Nat.add sl sz) (fun sl => k n H (n1, ce, sl, tb)))))) false) B) B) B
def kRep (n : Nat) (v : sV) (t : List sV) (k : List sV → Bool) : Bool := Nat.rec (motive := fun _ => List sV → Bool) (fun t => k t) (fun _ ih t => ih (v :: t)) n t
def kRps (n : Nat) (c : List sV) (t : List (List sV)) (k : List (List sV) → Bool) : Bool := Nat.rec (motive := fun _ => List (List sV) → Bool) (fun t => k t) (fun _ ih t => ih (c :: t)) n t
def kMk (n : Nat) (v : sV) (k : List (List sV) → Bool) : Bool := kRep (Nat.mod n 16) v [] (fun r => kRep 16 v [] (fun c => kRps (Nat.div n 16) c [r] k))
/-- the first n of f, then t from there on -/
def kCpl (n : Nat) (f t : List sV) (k : List sV → Bool) : Bool := Nat.rec (motive := fun _ => List sV → List sV → (List sV → Bool) → Bool) (fun _ t k => k t) (fun _ ih f t k => kPop f (fun a f => kPop t (fun _ t => ih f t (fun r => k (a :: r))))) n f t k
def kCp (q r : Nat) (f t : List (List sV)) (k : List (List sV) → Bool) : Bool := Nat.rec (motive := fun _ => List (List sV) → List (List sV) → (List (List sV) → Bool) → Bool) (fun f t k => Nat.rec (motive := fun _ => Bool) (k t) (fun _ _ => kPop f (fun a _ => kPop t (fun b t => kCpl r a b (fun c => k (c :: t))))) r) (fun _ ih f t k => kPop f (fun a f => kPop t (fun b t => kCpl 16 a b (fun c => ih f t (fun r => k (c :: r)))))) q f t k
/-- are the first n boxes -/
def kBx (p : Nat) (b : Bool) : Bool := kB (Nat.ble 5 p) (kB (Nat.ble p 260) b false) false
def kBxl (n : Nat) (f : List sV) (b : Bool) : Bool := Nat.rec (motive := fun _ => List sV → Bool) (fun _ => b) (fun _ ih f => kPop f (fun a f => kA a (fun _ => false) (fun p => kBx p (ih f)))) n f
def kBxs (q r : Nat) (f : List (List sV)) (b : Bool) : Bool := Nat.rec (motive := fun _ => List (List sV) → Bool) (fun f => Nat.rec (motive := fun _ => Bool) b (fun _ _ => kPop f (fun a _ => kBxl r a b)) r) (fun _ ih f => kPop f (fun a f => kBxl 16 a (ih f))) q f
def s_pad : List sV := [.inr (.inr (.inr (.inr (.inr (.inl 0))))), .inr (.inr (.inr (.inr (.inr (.inl 0))))), .inr (.inr (.inr (.inr (.inr (.inl 0))))), .inr (.inr (.inr (.inr (.inr (.inl 0))))), .inr (.inr (.inr (.inr (.inr (.inl 0))))), .inr (.inr (.inr (.inr (.inr (.inl 0))))), .inr (.inr (.inr (.inr (.inr (.inl 0))))), .inr (.inr (.inr (.inr (.inr (.inl 0))))), .inr (.inr (.inr (.inr (.inr (.inl 0))))), .inr (.inr (.inr (.inr (.inr (.inl 0))))), .inr (.inr (.inr (.inr (.inr (.inl 0))))), .inr (.inr (.inr (.inr (.inr (.inl 0))))), .inr (.inr (.inr (.inr (.inr (.inl 0))))), .inr (.inr (.inr (.inr (.inr (.inl 0)))))]
/-- the last n of the stack as locals, w words so far -/
def kArg (n : Nat) (S acc : List sV) (w : Nat) (k : List sV → List sV → Nat → Bool) : Bool := Nat.rec (motive := fun _ => List sV → List sV → Nat → Bool) (fun S acc w => k S acc w) (fun _ ih S acc w => kPop S (fun v S => kTw v (ih S (v :: .inr (.inr (.inr (.inr (.inr (.inl 0))))) :: acc) (Nat.add w 2)) (ih S (v :: acc) (Nat.add w 1)))) n S acc w
/-- a local is written: what stands before it must not be of two words -/
def kSl (L : List sV) (i : Nat) (v : sV) (k : List sV → Bool) : Bool := Nat.rec (motive := fun _ => Bool) (kSet L 0 v k) (fun j _ => kGet L j (fun u => kTw u false (kSet L (Nat.succ j) v k))) i
/-! instructions -/
def kX (X : sX) (k : List sF → sH → sE → sB → Bool) : Bool := Prod.rec (motive := fun _ => Bool) (fun F Y => Prod.rec (motive := fun _ => Bool) (fun H Z => Prod.rec (motive := fun _ => Bool) (fun E B => k F H E B) Z) Y) X
def kXH (X : sX) (k : sH → Bool) : Bool := Prod.rec (motive := fun _ => Bool) (fun _ Y => Prod.rec (motive := fun _ => Bool) (fun H _ => k H) Y) X
def kPp {α : Type} (S : List α) (k : α → α → List α → Bool) : Bool := List.rec (motive := fun _ => Bool) false (fun v t _ => List.rec (motive := fun _ => Bool) false (fun u S _ => k v u S) t) S
def s_fail : sK := fun _ _ _ => false
def s_push (v : sV) (k : sK) : sK := fun L S X => k L (v :: S) X
def s_ild (i : Nat) (k : sK) : sK := fun L S X => kGet L i (fun v => kIs v (k L (v :: S) X))
def s_ald (i : Nat) (k : sK) : sK := fun L S X => kGet L i (fun v => kAs v (k L (v :: S) X))
def s_lld (i : Nat) (k : sK) : sK := fun L S X => kGet L i (fun v => kLo v (fun _ => k L (v :: S) X))
def s_dld (i : Nat) (k : sK) : sK := fun L S X => kGet L i (fun v => kDo v (fun _ => k L (v :: S) X))
def s_ist (i : Nat) (k : sK) : sK := fun L S X => kPop S (fun v S => kIs v (kSl L i v (fun L => k L S X)))
def s_ast (i : Nat) (k : sK) : sK := fun L S X => kPop S (fun v S => kAs v (kSl L i v (fun L => k L S X)))
def s_lst (i : Nat) (k : sK) : sK := fun L S X => kPop S (fun v S => kLo v (fun _ => kSl L i v (fun L => kSet L (Nat.succ i) (.inr (.inr (.inr (.inr (.inr (.inl 0)))))) (fun L => k L S X))))
def s_dst (i : Nat) (k : sK) : sK := fun L S X => kPop S (fun v S => kDo v (fun _ => kSl L i v (fun L => kSet L (Nat.succ i) (.inr (.inr (.inr (.inr (.inr (.inl 0)))))) (fun L => k L S X))))
def s_inc2 (i c : Nat) (k : sK) (L S : List sV) (X : sX) (a : Nat) : Bool := kFrc (Nat.mod (Nat.add a c) 4294967296) (fun e => kSl L i (.inl e) (fun L => k L S X))
def s_inc (i c : Nat) (k : sK) : sK := fun L S X => kGet L i (fun v => Sum.rec (motive := fun _ => Bool) (fun a => s_inc2 i c k L S X a) (fun _ => kX X (fun F H E B => kRes v E (fun a E => s_inc2 i c k L S (F, H, E, B) a))) v)
/-- two numbers off the stack (v above u): f where both are written out, else each that they may be -/
abbrev sG : Type := sK → List sV → sX → List sV → Nat → Nat → Bool
def s_bnS (f : sG) (k : sK) (L : List sV) (X : sX) (v u : sV) (S : List sV) : Bool := kX X (fun F H E B => kRes u E (fun a E => kRes v E (fun b E => f k L (F, H, E, B) S a b)))
def s_bn2 (f : sG) (k : sK) (L : List sV) (X : sX) (v u : sV) (S : List sV) : Bool := Sum.rec (motive := fun _ => Bool) (fun b => Sum.rec (motive := fun _ => Bool) (fun a => f k L X S a b) (fun _ => s_bnS f k L X v u S) u) (fun _ => s_bnS f k L X v u S) v
def s_bin (f : sG) (k : sK) : sK := fun L S X => kPp S (fun v u S => s_bn2 f k L X v u S)
def s_add3 : sG := fun k L X S a b => kFrc (Nat.mod (Nat.add (Nat.add a b) 2147483648) 4294967296) (fun e => k L (.inl e :: S) X)
def s_sub3 : sG := fun k L X S a b => kB (Nat.ble b 4294967295) (kFrc (Nat.mod (Nat.sub (Nat.add a 6442450944) b) 4294967296) (fun e => k L (.inl e :: S) X)) false
def s_mul3 : sG := fun k L X S a b => kFrc (Nat.mod (Nat.add (Nat.mul (Nat.add a 2147483648) (Nat.add b 2147483648)) 2147483648) 4294967296) (fun e => k L (.inl e :: S) X)
def s_div3 : sG := fun k L X S a b => kB (Nat.ble 2147483649 b) (kB (Nat.ble b 4294967295) (kB (Nat.ble a 4294967295) (kB (Nat.ble 2147483648 a) (kFrc (Nat.add (Nat.div (Nat.sub a 2147483648) (Nat.sub b 2147483648)) 2147483648) (fun e => k L (.inl e :: S) X)) (kFrc (Nat.sub 2147483648 (Nat.div (Nat.sub 2147483648 a) (Nat.sub b 2147483648))) (fun e => k L (.inl e :: S) X))) false) false) false
def s_rem3 : sG := fun k L X S a b => kB (Nat.ble 2147483649 b) (kB (Nat.ble b 4294967295) (kB (Nat.ble a 4294967295) (kB (Nat.ble 2147483648 a) (kFrc (Nat.add (Nat.mod (Nat.sub a 2147483648) (Nat.sub b 2147483648)) 2147483648) (fun e => k L (.inl e :: S) X)) (kFrc (Nat.sub 2147483648 (Nat.mod (Nat.sub 2147483648 a) (Nat.sub b 2147483648))) (fun e => k L (.inl e :: S) X))) false) false) false
def s_and3 : sG := fun k L X S a b => kB (Nat.beq a 2147483648) (kB (kB (Nat.beq b 2147483648) true (Nat.beq b 2147483649)) (k L (.inl 2147483648 :: S) X) false) (kB (Nat.beq a 2147483649) (kB (Nat.beq b 2147483648) (k L (.inl 2147483648 :: S) X) (kB (Nat.beq b 2147483649) (k L (.inl 2147483649 :: S) X) false)) false)
def s_shr3 : sG := fun k L X S a b => kB (Nat.beq b 2147483649) (kB (Nat.ble 2147483648 a) (kB (Nat.ble a 4294967295) (kFrc (Nat.add (Nat.div (Nat.sub a 2147483648) 2) 2147483648) (fun e => k L (.inl e :: S) X)) false) false) false
/-- a number less a symbol stays as it is written -/
def s_sub2 (k : sK) (L : List sV) (X : sX) (v u : sV) (S : List sV) : Bool := kX X (fun _ _ E _ => kNm v E (fun _ => s_bnS s_sub3 k L X v u S) (fun j _ _ _ => kI u (fun a => kB (Nat.ble j 15) (kFrc (Nat.add (Nat.mul a 16) j) (fun d => k L (.inr (.inr (.inr (.inr (.inr (.inr d))))) :: S) X)) false)))
def s_sub (k : sK) : sK := fun L S X => kPp S (fun v u S => Sum.rec (motive := fun _ => Bool) (fun _ => s_bn2 s_sub3 k L X v u S) (fun _ => s_sub2 k L X v u S) v)
/-- is it 0 -/
def kZ (v : sV) (t f : Bool) : Bool := Sum.rec (motive := fun _ => Bool) (fun e => kB (Nat.beq e 2147483648) t f) (fun _ => f) v
def s_addS (k : sK) (L : List sV) (X : sX) (v u : sV) (S : List sV) : Bool := kIs u (kIs v (kZ u (k L (v :: S) X) (kZ v (k L (u :: S) X) (s_bnS s_add3 k L X v u S))))
def s_add (k : sK) : sK := fun L S X => kPp S (fun v u S => Sum.rec (motive := fun _ => Bool) (fun b => Sum.rec (motive := fun _ => Bool) (fun a => s_add3 k L X S a b) (fun _ => s_addS k L X v u S) u) (fun _ => s_addS k L X v u S) v)
def s_mulS (k : sK) (L : List sV) (X : sX) (v u : sV) (S : List sV) : Bool := kIs u (kIs v (kZ u (k L (.inl 2147483648 :: S) X) (kZ v (k L (.inl 2147483648 :: S) X) (s_bnS s_mul3 k L X v u S))))
def s_mul (k : sK) : sK := fun L S X => kPp S (fun v u S => Sum.rec (motive := fun _ => Bool) (fun b => Sum.rec (motive := fun _ => Bool) (fun a => s_mul3 k L X S a b) (fun _ => s_mulS k L X v u S) u) (fun _ => s_mulS k L X v u S) v)
def s_div (k : sK) : sK := s_bin s_div3 k
def s_rem (k : sK) : sK := s_bin s_rem3 k
def s_and (k : sK) : sK := s_bin s_and3 k
def s_shr (k : sK) : sK := s_bin s_shr3 k
def s_un (f : Nat → sK → sK) (k : sK) : sK := fun L S X => kPop S (fun v S => kX X (fun F H E B => kRes v E (fun a E => f a k L S (F, H, E, B))))
def s_i2l3 (a : Nat) (k : sK) : sK := fun L S X => kFrc (Nat.mod (Nat.add a 18446744071562067968) 18446744073709551616) (fun l => k L (.inr (.inr (.inr (.inr (.inl l)))) :: S) X)
def s_i2d3 (a : Nat) (k : sK) : sK := fun L S X => kFrc (Nat.add (FP.i2d (Int32.ofInt ((a : Int) - 2147483648))).toNat 1) (fun d => k L (.inr (.inr (.inr (.inr (.inr (.inl d))))) :: S) X)
/-- a symbol of many values stays a symbol: from 2^64 on -/
def s_i2l (k : sK) : sK := fun L S X => kPop S (fun v S => kX X (fun F H E B => kNm v E (fun e => s_i2l3 e k L S (F, H, E, B)) (fun j lo hi ex => kB (Nat.ble (Nat.sub hi lo) 300) (kRes v E (fun a E => s_i2l3 a k L S (F, H, E, B))) (kFrc (Nat.add j 18446744073709551616) (fun l => k L (.inr (.inr (.inr (.inr (.inl l)))) :: S) (F, H, E, B))))))
def s_i2d (k : sK) : sK := s_un s_i2d3 k
def kLn (v : sV) (k : Nat → Bool) : Bool := kLo v (fun l => kB (Nat.ble l 18446744073709551615) (k l) false)
def s_lbin (f : Nat → Nat → Nat) (k : sK) : sK := fun L S X => kPp S (fun v u S => kLn u (fun a => kLn v (fun b => kFrc (Nat.mod (f a b) 18446744073709551616) (fun l => k L (.inr (.inr (.inr (.inr (.inl l)))) :: S) X))))
def s_lsb3 : Nat → Nat → Nat := fun a b => Nat.sub (Nat.add a 18446744073709551616) (Nat.mod b 18446744073709551616)
def s_ladd (k : sK) : sK := s_lbin Nat.add k
def s_lsub (k : sK) : sK := s_lbin s_lsb3 k
def s_lmul (k : sK) : sK := s_lbin Nat.mul k
def s_lcmN (k : sK) (L S : List sV) (X : sX) (a b : Nat) : Bool := kFrc (Nat.mod (Nat.add a 9223372036854775808) 18446744073709551616) (fun a => kFrc (Nat.mod (Nat.add b 9223372036854775808) 18446744073709551616) (fun b => kB (Nat.beq a b) (k L (.inl 2147483648 :: S) X) (kB (Nat.ble a b) (k L (.inl 2147483647 :: S) X) (k L (.inl 2147483649 :: S) X))))
def s_lcm (k : sK) : sK := fun L S X => kPp S (fun v u S => kLo u (fun a => kLo v (fun b => kB (Nat.ble 18446744073709551616 a) (kB (Nat.beq a b) (k L (.inl 2147483648 :: S) X) false) (kB (Nat.ble b 18446744073709551615) (s_lcmN k L S X a b) false))))
def s_ddv (k : sK) : sK := fun L S X => kPp S (fun v u S => kDo u (fun a => kDo v (fun b => kB (decide (FP.ddiv (UInt64.ofNat a) (UInt64.ofNat b) &&& 0x7fffffffffffffff ≤ 0x7ff0000000000000)) (kFrc (Nat.add (FP.ddiv (UInt64.ofNat a) (UInt64.ofNat b)).toNat 1) (fun d => k L (.inr (.inr (.inr (.inr (.inr (.inl d))))) :: S) X)) false)))
def s_dcm (op : CmpOp) (k : sK) : sK := fun L S X => kPp S (fun v u S => kDo u (fun a => kDo v (fun b => kB (decide (Op.cmpValue (FP.dcmp (UInt64.ofNat a) (UInt64.ofNat b)) op = 0)) (k L (.inl 2147483648 :: S) X) false)))
def s_dup (k : sK) : sK := fun L S X => kPop S (fun v S => kTw v false (k L (v :: v :: S) X))
def s_du2 (k : sK) : sK := fun L S X => kPp S (fun v u S => kTw v false (kTw u false (k L (v :: u :: v :: u :: S) X)))
def s_dx1 (k : sK) : sK := fun L S X => kPp S (fun v u S => kTw v false (kTw u false (k L (v :: u :: v :: S) X)))
def s_pop (k : sK) : sK := fun L S X => kPop S (fun v S => kTw v false (k L S X))
/-- a comparison: g where both are written out, else by the symbols' bounds -/
def s_cm2 (g : Nat → Nat → Bool) (h : sV → sV → sE → (sE → Bool) → (sE → Bool) → Bool) (kt kf : sK) (L : List sV) (X : sX) (v u : sV) (S : List sV) : Bool := Sum.rec (motive := fun _ => Bool) (fun b => Sum.rec (motive := fun _ => Bool) (fun a => kB (Nat.ble a 4294967295) (kB (Nat.ble b 4294967295) (kB (g a b) (kt L S X) (kf L S X)) false) false) (fun _ => kX X (fun F H E B => h u v E (fun E => kt L S (F, H, E, B)) (fun E => kf L S (F, H, E, B)))) u) (fun _ => kX X (fun F H E B => h u v E (fun E => kt L S (F, H, E, B)) (fun E => kf L S (F, H, E, B)))) v
def s_ltg : Nat → Nat → Bool := fun a b => Nat.ble (Nat.add a 1) b
def kLe (u v : sV) (E : sE) (kt kf : sE → Bool) : Bool := kLt v u E kf kt
def s_ilt (kt kf : sK) : sK := fun L S X => kPp S (fun v u S => s_cm2 s_ltg kLt kt kf L X v u S)
def s_ile (kt kf : sK) : sK := fun L S X => kPp S (fun v u S => s_cm2 Nat.ble kLe kt kf L X v u S)
def s_ieq (kt kf : sK) : sK := fun L S X => kPp S (fun v u S => s_cm2 Nat.beq kEq kt kf L X v u S)
def s_zlt (kt kf : sK) : sK := fun L S X => kPop S (fun u S => s_cm2 s_ltg kLt kt kf L X (.inl 2147483648) u S)
def s_zle (kt kf : sK) : sK := fun L S X => kPop S (fun u S => s_cm2 Nat.ble kLe kt kf L X (.inl 2147483648) u S)
def s_zeq (kt kf : sK) : sK := fun L S X => kPop S (fun u S => s_cm2 Nat.beq kEq kt kf L X (.inl 2147483648) u S)
def s_ifa (k : sK) : sK := fun L S X => kPp S (fun v u S => kA u (fun a => kA v (fun b => kB (Nat.beq a b) (k L S X) false) (fun _ => false)) (fun a => kA v (fun _ => false) (fun b => kB (Nat.beq a b) (k L S X) false)))
def s_tsw3 (lo : Nat) (ts : List Nat) (d : Nat) (r : Nat → sK) (e : Nat) (L S : List sV) (X : sX) : Bool := kB (Nat.ble lo e) (kB (Nat.ble (Nat.add (Nat.sub e lo) 1) ts.length) (kGet ts (Nat.sub e lo) (fun t => r t L S X)) (r d L S X)) (r d L S X)
def s_tsw (lo : Nat) (ts : List Nat) (d : Nat) (r : Nat → sK) : sK := fun L S X => kPop S (fun v S => kX X (fun F H E B => kRes v E (fun e E => s_tsw3 lo ts d r e L S (F, H, E, B))))
def kAsc (e : Nat) (ps : List (Nat × Nat)) (d : Nat) (k : Nat → Bool) : Bool := List.rec (motive := fun _ => Bool) (k d) (fun p _ ih => Prod.rec (motive := fun _ => Bool) (fun a t => kB (Nat.beq a e) (k t) ih) p) ps
def s_lsw (ps : List (Nat × Nat)) (d : Nat) (r : Nat → sK) : sK := fun L S X => kPop S (fun v S => kX X (fun F H E B => kRes v E (fun e E => kAsc e ps d (fun t => r t L S (F, H, E, B)))))
def s_gfP (x y : Nat) (k : sK) (L S : List sV) (X : sX) (p : Nat) : Bool := kB (Nat.beq x 8) (kB (Nat.beq y 0) (kBx p (kFrc (Nat.add p 2147483515) (fun e => k L (.inl e :: S) X))) false) false
def s_gfC (x y : Nat) (k : sK) (L S : List sV) (X : sX) (c : sC) : Bool := kCo c x (fun fs => kGet fs y (fun v => k L (v :: S) X))
def s_gf (x y : Nat) (k : sK) : sK := fun L S X => kPop S (fun v S => kA v (fun r => kXH X (fun H => kH H r (fun c => s_gfC x y k L S X c))) (fun p => s_gfP x y k L S X p))
/-- t: 0 a whole number, 1 a reference -/
def s_pf (x y t : Nat) (k : sK) : sK := fun L S X => kPp S (fun v o S => kX X (fun F H E B => kA o (fun r => kH H r (fun c => kCo c x (fun fs => Nat.rec (motive := fun _ => Bool) (kIs v (kSet fs y v (fun fs => kHs H r (.inr (.inl (x, fs))) (fun H => k L S (F, H, E, B))))) (fun _ _ => kAs v (kSet fs y v (fun fs => kHs H r (.inr (.inl (x, fs))) (fun H => k L S (F, H, E, B))))) t))) (fun _ => false)))
def kTb (B : sB) (k : List Nat → Bool) : Bool := Prod.rec (motive := fun _ => Bool) (fun _ B => Prod.rec (motive := fun _ => Bool) (fun _ B => Prod.rec (motive := fun _ => Bool) (fun _ tb => k tb) B) B) B
def s_pre1 : List Nat := [2147483649, 2147483651, 2147483652, 2147483653, 2147483655]
def s_pre2 : List Nat := [2147483648, 2147483649, 2147483650, 2147483651, 2147483652, 2147483653, 2147483654, 2147483655, 2147483656]
def s_igaP (k : sK) (L S : List sV) (X : sX) (e p : Nat) : Bool := kB (Nat.beq p 999) (kX X (fun _ _ _ B => kTb B (fun tb => kIx e 7 (fun i => kGet tb i (fun j => k L (.inr (.inr (.inl j)) :: S) X))))) (kB (Nat.beq p 1) (kIx e 5 (fun i => kGet s_pre1 i (fun a => k L (.inl a :: S) X))) (kB (Nat.beq p 2) (kIx e 9 (fun i => kGet s_pre2 i (fun a => k L (.inl a :: S) X))) false))
def s_igaC (t : Nat) (kk : sV → Bool → Bool) (k : sK) (L S : List sV) (X : sX) (e : Nat) (c : sC) : Bool := kCa c t (fun n T => kIx e n (fun i => kG2 T i (fun v => kk v (k L (v :: S) X))))
def s_iga3 (k : sK) (o : sV) (e : Nat) (L S : List sV) (X : sX) : Bool := kA o (fun r => kXH X (fun H => kH H r (fun c => s_igaC 0 kIs k L S X e c))) (fun p => s_igaP k L S X e p)
/-- an index v: f where it is written out, else each that it may be -/
def s_ix (f : Nat → List sV → List sV → sX → Bool) (v : sV) (L S : List sV) (X : sX) : Bool := Sum.rec (motive := fun _ => Bool) (fun e => f e L S X) (fun _ => kX X (fun F H E B => kRes v E (fun e E => f e L S (F, H, E, B)))) v
def s_iga (k : sK) : sK := fun L S X => kPp S (fun v o S => s_ix (fun e L S X => s_iga3 k o e L S X) v L S X)
def s_xga3 (t : Nat) (kk : sV → Bool → Bool) (k : sK) (o : sV) (e : Nat) (L S : List sV) (X : sX) : Bool := kA o (fun r => kXH X (fun H => kH H r (fun c => s_igaC t kk k L S X e c))) (fun _ => false)
def s_xga (t : Nat) (kk : sV → Bool → Bool) (k : sK) : sK := fun L S X => kPp S (fun v o S => s_ix (fun e L S X => s_xga3 t kk k o e L S X) v L S X)
def kAt (j : Nat) (es : List (Nat × sV)) (k : sV → Bool) : Bool := List.rec (motive := fun _ => Bool) false (fun p _ ih => Prod.rec (motive := fun _ => Bool) (fun a v => kB (Nat.beq a j) (k v) ih) p) es
def kSy (v : sV) (k : Nat → Bool) : Bool := kV v (fun _ => false) (fun _ => false) k (fun _ => false) (fun _ => false) (fun _ => false) (fun _ => false)
def kRf (t : Nat) (b : Bool) : Bool := kB (kB (Nat.beq t 2) true (kB (Nat.beq t 5) true (Nat.beq t 6))) b false
def s_aga (k : sK) : sK := fun L S X => kPp S (fun v o S => kA o (fun r => kX X (fun F H E B => kH H r (fun c => kC c
  (fun t n T => kRf t (kRes v E (fun e E => kIx e n (fun i => kG2 T i (fun v => kAs v (k L (v :: S) (F, H, E, B))))))) (fun _ _ => false)
  (fun t n es => kRf t (kSy v (fun j => kAt j es (fun v => kAs v (k L (v :: S) X))))))))
  (fun p => kB (Nat.beq p 3) (kX X (fun F H E B => kRes v E (fun e E => kIx e 256 (fun i => kFrc (Nat.add i 5) (fun p => k L (.inr (.inr (.inr (.inl p))) :: S) (F, H, E, B)))))) false))
def kP3 {α : Type} (S : List α) (k : α → α → α → List α → Bool) : Bool := List.rec (motive := fun _ => Bool) false (fun v t _ => List.rec (motive := fun _ => Bool) false (fun u t _ => List.rec (motive := fun _ => Bool) false (fun w S _ => k v u w S) t) t) S
def s_xsa3 (t : Nat) (k : sK) (x : sV) (r e : Nat) (L S : List sV) (X : sX) : Bool := kX X (fun F H E B => kH H r (fun c => kCa c t (fun n T => kIx e n (fun i => kS2 T i x (fun T => kHs H r (.inl (t, n, T)) (fun H => k L S (F, H, E, B)))))))
def s_xsa (t : Nat) (kk : sV → Bool → Bool) (k : sK) : sK := fun L S X => kP3 S (fun x v o S => kk x (kA o (fun r => s_ix (fun e L S X => s_xsa3 t k x r e L S X) v L S X) (fun _ => false)))
def s_bsa (k : sK) : sK := fun L S X => kP3 S (fun x v o S => kI x (fun a => kB (Nat.ble 2147483648 a) (kB (Nat.ble a 2147483649) (kA o (fun r => s_ix (fun e L S X => s_xsa3 1 k x r e L S X) v L S X) (fun _ => false)) false) false))
def kAu (j : Nat) (x : sV) (es : List (Nat × sV)) (k : List (Nat × sV) → Bool) : Bool := List.rec (motive := fun _ => (List (Nat × sV) → Bool) → Bool) (fun _ => false) (fun p t ih k => Prod.rec (motive := fun _ => Bool) (fun a v => kB (Nat.beq a j) (k ((a, x) :: t)) (ih (fun t => k ((a, v) :: t)))) p) es k
/-- what is stored: the kind of row that takes it -/
def kKd (x : sV) (H : sH) (k : Nat → Bool) : Bool := kA x (fun r => kH H r (fun c => kC c (fun _ _ _ => false) (fun ci _ => kB (Nat.beq ci 3) (k 2) (kB (Nat.beq ci 6) (k 5) false)) (fun _ _ _ => false))) (fun p => kBx p (k 6))
def s_asa (k : sK) : sK := fun L S X => kP3 S (fun x v o S => kX X (fun F H E B => kKd x H (fun t => kA o (fun r => kH H r (fun c => kC c
  (fun u n T => kB (Nat.beq u t) (kRes v E (fun e E => kIx e n (fun i => kS2 T i x (fun T => kHs H r (.inl (u, n, T)) (fun H => k L S (F, H, E, B)))))) false) (fun _ _ => false)
  (fun u n es => kB (Nat.beq u t) (kSy v (fun j => kAu j x es (fun es => kHs H r (.inr (.inr (u, n, es))) (fun H => k L S (F, H, E, B))))) false))) (fun _ => false))))
def s_len (k : sK) : sK := fun L S X => kPop S (fun o S => kA o (fun r => kXH X (fun H => kH H r (fun c => kC c (fun t n _ => kB (Nat.ble t 6) (kFrc (Nat.add n 2147483648) (fun e => k L (.inl e :: S) X)) false) (fun _ _ => false) (fun _ _ _ => false))))
  (fun p => kB (Nat.beq p 999) (k L (.inl 2147483655 :: S) X) (kB (Nat.beq p 0) (k L (.inl 2147483648 :: S) X) (kB (Nat.beq p 1) (k L (.inl 2147483653 :: S) X) (kB (Nat.beq p 2) (k L (.inl 2147483657 :: S) X) false)))))
def s_mk1 (c : sC) (n : Nat) (k : sK) : sK := fun L S X => kX X (fun F H E B => kAl c n H B (fun r H B => k L (.inr (.inl r) :: S) (F, H, E, B)))
def s_new (x n : Nat) (ds : List sV) (k : sK) : sK := s_mk1 (.inr (.inl (x, ds))) n k
def s_nwa3 (x : Nat) (d : sV) (e : Nat) (k : sK) : sK := fun L S X => kIx e 1001 (fun n => kMk n d (fun T => s_mk1 (.inl (x, n, T)) n k L S X))
def s_nwa (x : Nat) (d : sV) (k : sK) : sK := s_un (s_nwa3 x d) k
def s_cln (k : sK) : sK := fun L S X => kPop S (fun o S => kCt S (kA o (fun r => kXH X (fun H => kH H r (fun c => kCa c 0 (fun n T => s_mk1 (.inl (0, n, T)) n k L S X)))) (fun _ => false)))
def s_gcl (k : sK) : sK := fun L S X => kPop S (fun o S => kCt S (kA o (fun r => kXH X (fun H => kH H r (fun c => kCa c 6 (fun _ _ => k L (.inr (.inr (.inr (.inl 4))) :: S) X)))) (fun _ => false)))
def s_cst (x : Nat) (k : sK) : sK := fun L S X => kPop S (fun o _ => Nat.rec (motive := fun _ => Bool) (kA o (fun r => kXH X (fun H => kH H r (fun c => kCa c 0 (fun _ _ => k L S X)))) (fun _ => false)) (fun x _ => Nat.rec (motive := fun _ => Bool) (kA o (fun _ => false) (fun p => kBx p (k L S X))) (fun x _ => Nat.rec (motive := fun _ => Bool) (kA o (fun r => kXH X (fun H => kH H r (fun c => kCa c 6 (fun _ _ => k L S X)))) (fun _ => false)) (fun _ _ => false) x) x) x)
def s_obj (k : sK) : sK := fun L S X => kPop S (fun o S => kAs o (kCt S (k L S X)))
/-- the greater of two (m 0), the less (m 1) -/
def s_mmS (m : Nat) (k : sK) (L : List sV) (X : sX) (v u : sV) (S : List sV) : Bool := kX X (fun F H E B => kIs u (kIs v (kRg u E (fun a c => kRg v E (fun b d => kB (Nat.ble d a) (Nat.rec (motive := fun _ => Bool) (k L (u :: S) X) (fun _ _ => k L (v :: S) X) m) (kB (Nat.ble c b) (Nat.rec (motive := fun _ => Bool) (k L (v :: S) X) (fun _ _ => k L (u :: S) X) m)
  (kRes u E (fun a E => kRes v E (fun b E => kB (Nat.ble b a) (Nat.rec (motive := fun _ => Bool) (k L (.inl a :: S) (F, H, E, B)) (fun _ _ => k L (.inl b :: S) (F, H, E, B)) m) (Nat.rec (motive := fun _ => Bool) (k L (.inl b :: S) (F, H, E, B)) (fun _ _ => k L (.inl a :: S) (F, H, E, B)) m))))))))))
def s_mm3 (m : Nat) (k : sK) (L : List sV) (X : sX) (S : List sV) (a b : Nat) : Bool := kB (Nat.ble a 4294967295) (kB (Nat.ble b 4294967295) (kB (Nat.ble b a) (Nat.rec (motive := fun _ => Bool) (k L (.inl a :: S) X) (fun _ _ => k L (.inl b :: S) X) m) (Nat.rec (motive := fun _ => Bool) (k L (.inl b :: S) X) (fun _ _ => k L (.inl a :: S) X) m)) false) false
def s_mm (m : Nat) (k : sK) : sK := fun L S X => kPp S (fun v u S => kCt S (Sum.rec (motive := fun _ => Bool) (fun b => Sum.rec (motive := fun _ => Bool) (fun a => s_mm3 m k L X S a b) (fun _ => s_mmS m k L X v u S) u) (fun _ => s_mmS m k L X v u S) v))
def s_abs3 (a : Nat) (k : sK) : sK := fun L S X => kCt S (kB (Nat.ble 2147483648 a) (k L (.inl a :: S) X) (kFrc (Nat.mod (Nat.sub 4294967296 a) 4294967296) (fun e => k L (.inl e :: S) X)))
def s_abs (k : sK) : sK := s_un s_abs3 k
def s_cpy3 (k : sK) (r e : Nat) (F : List sF) (E : sE) (B : sB) (L S : List sV) (H : sH) (c0 c : sC) : Bool := kC c0 (fun t0 n0 T0 => kC c (fun t n T => kB (Nat.beq t0 t) (kIx e (Nat.add n0 1) (fun i => kB (Nat.ble i n) (kB (Nat.beq t 0)
  (kCp (Nat.div i 16) (Nat.mod i 16) T0 T (fun T => kHs H r (.inl (t, n, T)) (fun H => k L S (F, H, E, B))))
  (kB (Nat.beq t 6) (kBxs (Nat.div i 16) (Nat.mod i 16) T0 (kCp (Nat.div i 16) (Nat.mod i 16) T0 T (fun T => kHs H r (.inl (t, n, T)) (fun H => k L S (F, H, E, B))))) false)) false)) false) (fun _ _ => false) (fun _ _ _ => false)) (fun _ _ => false) (fun _ _ _ => false)
def s_cpy (k : sK) : sK := fun L S X => kP3 S (fun vn vd o S => kPp S (fun vs o0 S => kCt S (kZ vd (kZ vs (kX X (fun F H E B => kRes vn E (fun e E => kA o0 (fun r0 => kA o (fun r => kH H r0 (fun c0 => kH H r (fun c => s_cpy3 k r e F E B L S H c0 c))) (fun _ => false)) (fun _ => false)))) false) false)))
/-- a call: the callee x, its arguments n (with the receiver), its words, the receiver's class (none: 0; else class + 1), where it comes back to, what is caught there -/
def s_cal3 (r : sR) (x M pc : Nat) (hs : List (Nat × Nat × Nat)) (L S a : List sV) (X : sX) : Bool := Prod.rec (motive := fun _ => Bool) (fun F Y => r x 0 a [] ((M, pc, L, S, hs) :: F, Y)) X
def s_cal2 (r : sR) (x rc M pc : Nat) (hs : List (Nat × Nat × Nat)) (L S a : List sV) (X : sX) : Bool := Nat.rec (motive := fun _ => Bool) (s_cal3 r x M pc hs L S a X)
  (fun c _ => kPop a (fun o _ => kA o (fun q => kXH X (fun H => kH H q (fun d => kCo d c (fun _ => s_cal3 r x M pc hs L S a X)))) (fun p => kB (Nat.beq c 8) (kBx p (s_cal3 r x M pc hs L S a X)) false))) rc
def s_cal (r : sR) (x n w rc M pc : Nat) (hs : List (Nat × Nat × Nat)) : sK := fun L S X => kArg n S s_pad 0 (fun S a u => kB (Nat.ble u w) (kCt S (s_cal2 r x rc M pc hs L S a X)) false)
/-- the end of the law: 1, within the room -/
def kFin (v : sV) (B : sB) : Bool := kI v (fun e => kB (Nat.beq e 2147483649) (Prod.rec (motive := fun _ => Bool) (fun _ B => Prod.rec (motive := fun _ => Bool) (fun ce B => Prod.rec (motive := fun _ => Bool) (fun sl _ => kB (Nat.ble ce 600002) (Nat.ble sl 7302232) false) B) B) B) false)
def kRe1 (r : sR) (v : sV) (f : sF) (F : List sF) (Y : sH × sE × sB) : Bool := Prod.rec (motive := fun _ => Bool) (fun M f => Prod.rec (motive := fun _ => Bool) (fun pc f => Prod.rec (motive := fun _ => Bool) (fun L f => Prod.rec (motive := fun _ => Bool) (fun S _ => r M pc L (v :: S) (F, Y)) f) f) f) f
def kRet (r : sR) (v : sV) (X : sX) : Bool := Prod.rec (motive := fun _ => Bool) (fun F Y => List.rec (motive := fun _ => Bool) (Prod.rec (motive := fun _ => Bool) (fun _ Z => Prod.rec (motive := fun _ => Bool) (fun _ B => kFin v B) Z) Y) (fun f F _ => kRe1 r v f F Y) F) X
def kRe0 (r : sR) (f : sF) (F : List sF) (Y : sH × sE × sB) : Bool := Prod.rec (motive := fun _ => Bool) (fun M f => Prod.rec (motive := fun _ => Bool) (fun pc f => Prod.rec (motive := fun _ => Bool) (fun L f => Prod.rec (motive := fun _ => Bool) (fun S _ => r M pc L S (F, Y)) f) f) f) f
def kRev (r : sR) (X : sX) : Bool := Prod.rec (motive := fun _ => Bool) (fun F Y => List.rec (motive := fun _ => Bool) false (fun f F _ => kRe0 r f F Y) F) X
def s_reti (r : sR) : sK := fun _ S X => kPop S (fun v S => kNil S (kIs v (kRet r v X)))
def s_retz (r : sR) : sK := fun _ S X => kPop S (fun v S => kNil S (kI v (fun e => kB (Nat.ble 2147483648 e) (kB (Nat.ble e 2147483649) (kRet r v X) false) false)))
def s_reta (r : sR) : sK := fun _ S X => kPop S (fun v S => kNil S (kAs v (kRet r v X)))
def s_retl (r : sR) : sK := fun _ S X => kPop S (fun v S => kNil S (kLo v (fun _ => kRet r v X)))
def s_retd (r : sR) : sK := fun _ S X => kPop S (fun v S => kNil S (kDo v (fun _ => kRet r v X)))
def s_rev (r : sR) : sK := fun _ S X => kNil S (kRev r X)
/-- thrown: the frames, from the nearest on -/
def kFnd (x : Nat) (hs : List (Nat × Nat × Nat)) (k : Nat → Nat → Bool) : Bool := List.rec (motive := fun _ => Bool) false (fun h _ ih => Prod.rec (motive := fun _ => Bool) (fun a h => Prod.rec (motive := fun _ => Bool) (fun q s => kB (Nat.beq a x) (k q s) ih) h) h) hs
def kUnw (r : sR) (x : Nat) (F : List sF) (Y : sH × sE × sB) : Bool := List.rec (motive := fun _ => Bool) false (fun f F ih => Prod.rec (motive := fun _ => Bool) (fun M f => Prod.rec (motive := fun _ => Bool) (fun pc f => Prod.rec (motive := fun _ => Bool) (fun L f => Prod.rec (motive := fun _ => Bool) (fun S hs => List.rec (motive := fun _ => Bool) ih (fun _ _ _ => kFnd x hs (fun q s => kSl L s (.inr (.inr (.inr (.inr (.inr (.inl 0)))))) (fun L => r M q L [] (F, Y)))) hs) f) f) f) f) F
def s_thr (r : sR) (x : Nat) : sK := fun _ S X => kNil S (kX X (fun F H E B => Prod.rec (motive := fun _ => Bool) (fun n B => Prod.rec (motive := fun _ => Bool) (fun ce B => Prod.rec (motive := fun _ => Bool) (fun sl tb => kFrc (Nat.add n 1) (fun n => kFrc (Nat.add ce 1) (fun ce => kFrc (Nat.add sl 6) (fun sl => kUnw r x F (H, E, n, ce, sl, tb))))) B) B) B))
end
noncomputable section
/-! from the data to the run by symbols -/
def s_num (n : Int) : Nat := (n + 2147483648).toNat
def s_dfl (t : FieldType) : sV := match defaultValue t with
  | .int _ => .inl 2147483648
  | _ => .inr (.inr (.inr (.inr (.inr (.inl 0)))))
def s_dok (t : FieldType) : Bool := match defaultValue t with
  | .int v => decide (v = 0)
  | .null => true
  | _ => false
def s_kd (x y : Nat) : Option Nat := match m_fty x y with
  | .int => some 0
  | .object _ => some 1
  | .array _ => some 1
  | _ => none
/-- what a method gives back: 0 a whole number, 1 a truth value, 2 a reference, 3 a long, 4 a double, 5 nothing -/
def s_rt (M : Nat) : Nat := match m_rt M with
  | some .int => 0
  | some .boolean => 1
  | some (.object _) => 2
  | some (.array _) => 2
  | some .long => 3
  | some .double => 4
  | none => 5
  | _ => 6
def s_hs (M pc : Nat) (i : Instr) (w : Nat) : List (Nat × Nat × Nat) := if m_ths i w = true then (if (m_hx M).isEmpty = true then [] else (([0, 1, 2] : List Nat).filterMap (fun k => (m_hd M pc k).map (fun q => (k, q.1, q.2)))) ++ [(99, 0, 0)]) else [(99, 0, 0)]
def s_call (r : sR) (M pc : Nat) (i : Instr) (x w : Nat) : sK := if (w = 1 ∨ w = 2) ∧ ¬ m_rc x = 98 then s_cal r x (if m_stc x = true then m_na x else m_na x + 1) (m_nL x) (if m_stc x = true then 0 else m_rc x + 1) M (pc + 3) (s_hs M pc i w) else s_fail
def s_tg (pc : Nat) (off : Int) : Option Nat := if 0 ≤ (pc : Int) + off then some ((pc : Int) + off).toNat else none
def s_cmp1 (r : sR) (M : Nat) (q : m_I) (k : sK) : sK := match q with
  | (pc, i, x, _, w, z) => if w = 8 then (match i with
      | .new _ => if x < 3 then s_thr r x else s_fail
      | _ => s_fail) else match i with
    | .iconst n => if 0 ≤ n + 2147483648 then s_push (.inl (s_num n)) k else s_fail
    | .bipush n => if 0 ≤ n + 2147483648 ∧ (Int8.ofInt n).toInt32 = Int32.ofInt n then s_push (.inl (s_num n)) k else s_fail
    | .sipush n => if 0 ≤ n + 2147483648 ∧ (Int16.ofInt n).toInt32 = Int32.ofInt n then s_push (.inl (s_num n)) k else s_fail
    | .lconst n => s_push (.inr (.inr (.inr (.inr (.inl n.val))))) k
    | .dconst d => if d = 0 then s_push (.inr (.inr (.inr (.inr (.inr (.inl 1)))))) k else s_fail
    | .ldc _ => if w = 14 then s_push (.inr (.inr (.inr (.inl 4)))) k else if 0 ≤ z + 2147483648 then s_push (.inl (s_num z)) k else s_fail
    | .ldc2_w _ => s_push (.inr (.inr (.inr (.inr (.inl (z % 18446744073709551616).toNat))))) k
    | .iload_n j => s_ild j.val k
    | .iload j => s_ild j k
    | .aload_n j => s_ald j.val k
    | .aload j => s_ald j k
    | .lload_n j => s_lld j.val k
    | .lload j => s_lld j k
    | .dload j => s_dld j k
    | .istore_n j => s_ist j.val k
    | .istore j => s_ist j k
    | .astore_n j => s_ast j.val k
    | .astore j => s_ast j k
    | .lstore_n j => s_lst j.val k
    | .lstore j => s_lst j k
    | .dstore j => s_dst j k
    | .iinc j n => s_inc j (n % 4294967296).toNat k
    | .iadd => s_add k
    | .isub => s_sub k
    | .imul => s_mul k
    | .idiv => s_div k
    | .irem => s_rem k
    | .iand => s_and k
    | .ishr => s_shr k
    | .i2l => s_i2l k
    | .i2d => s_i2d k
    | .ladd => s_ladd k
    | .lsub => s_lsub k
    | .lmul => s_lmul k
    | .lcmp => s_lcm k
    | .ddiv => s_ddv k
    | .dcmp op => s_dcm op k
    | .dup => s_dup k
    | .dup2 => s_du2 k
    | .dup_x1 => s_dx1 k
    | .pop => s_pop k
    | .aconst_null => s_push (.inr (.inr (.inr (.inr (.inr (.inl 0)))))) k
    | .goto _ => r M x
    | .ifCond c _ => (match c with
      | .eq => s_zeq (r M x) k
      | .ne => s_zeq k (r M x)
      | .lt => s_zlt (r M x) k
      | .ge => s_zlt k (r M x)
      | .gt => s_zle k (r M x)
      | .le => s_zle (r M x) k)
    | .if_icmp c _ => (match c with
      | .eq => s_ieq (r M x) k
      | .ne => s_ieq k (r M x)
      | .lt => s_ilt (r M x) k
      | .ge => s_ilt k (r M x)
      | .gt => s_ile k (r M x)
      | .le => s_ile (r M x) k)
    | .if_acmp c _ => s_ifa (if c = .eq then r M x else k)
    | .tableswitch d lo hi offs => (match s_tg pc d, offs.toList.mapM (s_tg pc) with
      | some d, some ts => if (ts.length : Int) = hi - lo + 1 ∧ 0 ≤ lo + 2147483648 ∧ hi < 2147483648 then s_tsw (s_num lo) ts d (r M) else s_fail
      | _, _ => s_fail)
    | .lookupswitch d ps => (match s_tg pc d, ps.toList.mapM (fun p => (s_tg pc p.2).map (fun t => (p.1, t))) with
      | some d, some ts => if ts.all (fun p => decide (0 ≤ p.1 + 2147483648)) = true then s_lsw (ts.map (fun p => (s_num p.1, p.2))) d (r M) else s_fail
      | _, _ => s_fail)
    | .getfield _ => if x = 98 then s_fail else s_gf x q.2.2.2.1 k
    | .putfield _ => if x = 98 then s_fail else (match s_kd x q.2.2.2.1 with
      | some t => s_pf x q.2.2.2.1 t k
      | none => s_fail)
    | .getstatic _ => if w = 11 then (if x = 999 then s_fail else s_push (.inr (.inr (.inr (.inl x)))) k) else if w = 12 ∧ 0 ≤ z + 2147483648 then s_push (.inl (s_num z)) k else s_fail
    | .iaload => s_iga k
    | .baload => s_xga 1 kIs k
    | .laload => s_xga 3 (fun v b => kLo v (fun _ => b)) k
    | .daload => s_xga 4 (fun v b => kDo v (fun _ => b)) k
    | .aaload => s_aga k
    | .iastore => s_xsa 0 kIs k
    | .bastore => s_bsa k
    | .lastore => s_xsa 3 (fun v b => kLo v (fun _ => b)) k
    | .dastore => s_xsa 4 (fun v b => kDo v (fun _ => b)) k
    | .aastore => s_asa k
    | .arraylength => s_len k
    | .new _ => (match m_cl[x]? with
      | some c => if x < 10 ∧ (List.range c.2.2).all (fun j => s_dok (m_fty x j)) = true then s_new x c.2.2 ((List.range c.2.2).map (fun j => s_dfl (m_fty x j))) k else s_fail
      | none => s_fail)
    | .newarray _ => s_nwa x (if x = 3 then .inr (.inr (.inr (.inr (.inl 0)))) else if x = 4 then .inr (.inr (.inr (.inr (.inr (.inl 1))))) else .inl 2147483648) k
    | .anewarray _ => s_nwa x (.inr (.inr (.inr (.inr (.inr (.inl 0)))))) k
    | .checkcast _ => s_cst x k
    | .invokestatic _ => if w = 3 then s_mm 0 k else if w = 4 then s_mm 1 k else if w = 5 then s_abs k else if w = 6 then s_cpy k else s_call r M pc i x w
    | .invokevirtual _ => if w = 10 then s_cln k else if w = 13 then s_gcl k else s_call r M pc i x w
    | .invokespecial _ => if w = 7 then s_obj k else s_call r M pc i x w
    | .ireturn => if s_rt M = 0 then s_reti r else if s_rt M = 1 then s_retz r else s_fail
    | .areturn => if s_rt M = 2 then s_reta r else s_fail
    | .lreturn => if s_rt M = 3 then s_retl r else s_fail
    | .dreturn => if s_rt M = 4 then s_retd r else s_fail
    | .return_ => if s_rt M = 5 then s_rev r else s_fail
    | _ => s_fail
def s_cmp (r : sR) (M : Nat) (fin : sK) : List m_I → sK
  | [] => fin
  | q :: t => s_cmp1 r M q (s_cmp r M fin t)
end
