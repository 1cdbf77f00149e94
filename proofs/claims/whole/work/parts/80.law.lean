-- THE LAW: its loop over the faces of the two classes
def FaceP (Rel : xM → xM → Prop) (F G : xF) (as : List Value) : Prop := ∀ MC MR, Rel MC MR → ∃ (ρ : Value) (QC QR : xM → Prop), Sp F (.ref 0 :: as) MC (fun r M' => r = some ρ ∧ QC M') ∧ Sp G (.ref 0 :: as) MR (fun r M' => r = some ρ ∧ QR M') ∧ ∀ MC' MR', QC MC' → QR MR' → Rel MC' MR' 
def Fc_make (Rel : xM → xM → Prop) : Prop := ∀ (a0 : Int32) (a1 : Int64), ∀ MC MR, Rel MC MR → ∃ (ρ : Int32) (QC QR : xM → Prop), Sp (fX5_make 200) (.ref 0 :: [.int a0, .long a1]) MC (fun r M' => r = some (.int ρ) ∧ QC M') ∧ Sp (fX6_make 200) (.ref 0 :: [.int a0, .long a1]) MR (fun r M' => r = some (.int ρ) ∧ QR M') ∧ ∀ MC' MR', QC MC' → QR MR' → Rel MC' MR'
def Fc_kind (Rel : xM → xM → Prop) : Prop := ∀ (a0 : Int32), ∀ MC MR, Rel MC MR → ∃ (ρ : Int32) (QC QR : xM → Prop), Sp (fX5_kind 200) (.ref 0 :: [.int a0]) MC (fun r M' => r = some (.int ρ) ∧ QC M') ∧ Sp (fX6_kind 200) (.ref 0 :: [.int a0]) MR (fun r M' => r = some (.int ρ) ∧ QR M') ∧ ∀ MC' MR', QC MC' → QR MR' → Rel MC' MR'
def Fc_size (Rel : xM → xM → Prop) : Prop := ∀ (a0 : Int32), ∀ MC MR, Rel MC MR → ∃ (ρ : Int32) (QC QR : xM → Prop), Sp (fX5_size 200) (.ref 0 :: [.int a0]) MC (fun r M' => r = some (.int ρ) ∧ QC M') ∧ Sp (fX6_size 200) (.ref 0 :: [.int a0]) MR (fun r M' => r = some (.int ρ) ∧ QR M') ∧ ∀ MC' MR', QC MC' → QR MR' → Rel MC' MR'
def Fc_drop (Rel : xM → xM → Prop) : Prop := ∀ (a0 : Int32), ∀ MC MR, Rel MC MR → ∃ (ρ : Int32) (QC QR : xM → Prop), Sp (fX5_drop 200) (.ref 0 :: [.int a0]) MC (fun r M' => r = some (.int ρ) ∧ QC M') ∧ Sp (fX6_drop 200) (.ref 0 :: [.int a0]) MR (fun r M' => r = some (.int ρ) ∧ QR M') ∧ ∀ MC' MR', QC MC' → QR MR' → Rel MC' MR'
def Fc_gather (Rel : xM → xM → Prop) : Prop := ∀ (a0 : Int32), ∀ MC MR, Rel MC MR → ∃ (ρ : Int32) (QC QR : xM → Prop), Sp (fX5_gather 200) (.ref 0 :: [.int a0]) MC (fun r M' => r = some (.int ρ) ∧ QC M') ∧ Sp (fX6_gather 200) (.ref 0 :: [.int a0]) MR (fun r M' => r = some (.int ρ) ∧ QR M') ∧ ∀ MC' MR', QC MC' → QR MR' → Rel MC' MR'
def Fc_copyOf (Rel : xM → xM → Prop) : Prop := ∀ (a0 : Int32), ∀ MC MR, Rel MC MR → ∃ (ρ : Int32) (QC QR : xM → Prop), Sp (fX5_copyOf 200) (.ref 0 :: [.int a0]) MC (fun r M' => r = some (.int ρ) ∧ QC M') ∧ Sp (fX6_copyOf 200) (.ref 0 :: [.int a0]) MR (fun r M' => r = some (.int ρ) ∧ QR M') ∧ ∀ MC' MR', QC MC' → QR MR' → Rel MC' MR'
def Fc_get (Rel : xM → xM → Prop) : Prop := ∀ (a0 : Int32) (a1 : Int32) (a2 : Int32), ∀ MC MR, Rel MC MR → ∃ (ρ : Int64) (QC QR : xM → Prop), Sp (fX5_get 200) (.ref 0 :: [.int a0, .int a1, .int a2]) MC (fun r M' => r = some (.long ρ) ∧ QC M') ∧ Sp (fX6_get 200) (.ref 0 :: [.int a0, .int a1, .int a2]) MR (fun r M' => r = some (.long ρ) ∧ QR M') ∧ ∀ MC' MR', QC MC' → QR MR' → Rel MC' MR'
def Fc_set (Rel : xM → xM → Prop) : Prop := ∀ (a0 : Int32) (a1 : Int32) (a2 : Int32) (a3 : Int64), ∀ MC MR, Rel MC MR → ∃ (ρ : Int32) (QC QR : xM → Prop), Sp (fX5_set 200) (.ref 0 :: [.int a0, .int a1, .int a2, .long a3]) MC (fun r M' => r = some (.int ρ) ∧ QC M') ∧ Sp (fX6_set 200) (.ref 0 :: [.int a0, .int a1, .int a2, .long a3]) MR (fun r M' => r = some (.int ρ) ∧ QR M') ∧ ∀ MC' MR', QC MC' → QR MR' → Rel MC' MR'
def Fc_usable (Rel : xM → xM → Prop) : Prop := ∀ (a0 : Int32) (a1 : Int32) (a2 : Int32), ∀ MC MR, Rel MC MR → ∃ (ρ : Int32) (QC QR : xM → Prop), Sp (fX5_usable 200) (.ref 0 :: [.int a0, .int a1, .int a2]) MC (fun r M' => r = some (.int ρ) ∧ QC M') ∧ Sp (fX6_usable 200) (.ref 0 :: [.int a0, .int a1, .int a2]) MR (fun r M' => r = some (.int ρ) ∧ QR M') ∧ ∀ MC' MR', QC MC' → QR MR' → Rel MC' MR'
def Fc_look (Rel : xM → xM → Prop) : Prop := ∀ (a0 : Int32) (a1 : Int32) (a2 : Int32), ∀ MC MR, Rel MC MR → ∃ (ρ : Int64) (QC QR : xM → Prop), Sp (fX5_look 200) (.ref 0 :: [.int a0, .int a1, .int a2]) MC (fun r M' => r = some (.long ρ) ∧ QC M') ∧ Sp (fX6_look 200) (.ref 0 :: [.int a0, .int a1, .int a2]) MR (fun r M' => r = some (.long ρ) ∧ QR M') ∧ ∀ MC' MR', QC MC' → QR MR' → Rel MC' MR'
def Fc_put (Rel : xM → xM → Prop) : Prop := ∀ (a0 : Int32) (a1 : Int32) (a2 : Int32) (a3 : Int64), ∀ MC MR, Rel MC MR → ∃ (ρ : Int32) (QC QR : xM → Prop), Sp (fX5_put 200) (.ref 0 :: [.int a0, .int a1, .int a2, .long a3]) MC (fun r M' => r = some (.int ρ) ∧ QC M') ∧ Sp (fX6_put 200) (.ref 0 :: [.int a0, .int a1, .int a2, .long a3]) MR (fun r M' => r = some (.int ρ) ∧ QR M') ∧ ∀ MC' MR', QC MC' → QR MR' → Rel MC' MR'
def Fc_swap (Rel : xM → xM → Prop) : Prop := ∀ (a0 : Int32) (a1 : Int32) (a2 : Int32), ∀ MC MR, Rel MC MR → ∃ (ρ : Int32) (QC QR : xM → Prop), Sp (fX5_swap 200) (.ref 0 :: [.int a0, .int a1, .int a2]) MC (fun r M' => r = some (.int ρ) ∧ QC M') ∧ Sp (fX6_swap 200) (.ref 0 :: [.int a0, .int a1, .int a2]) MR (fun r M' => r = some (.int ρ) ∧ QR M') ∧ ∀ MC' MR', QC MC' → QR MR' → Rel MC' MR'
def Fc_went (Rel : xM → xM → Prop) : Prop := ∀ (a0 : Int32), ∀ MC MR, Rel MC MR → ∃ (ρ : Int32) (QC QR : xM → Prop), Sp (fX5_went 200) (.ref 0 :: [.int a0]) MC (fun r M' => r = some (.int ρ) ∧ QC M') ∧ Sp (fX6_went 200) (.ref 0 :: [.int a0]) MR (fun r M' => r = some (.int ρ) ∧ QR M') ∧ ∀ MC' MR', QC MC' → QR MR' → Rel MC' MR'
def Fc_carry (Rel : xM → xM → Prop) : Prop := ∀ (a0 : Int32) (a1 : Int32) (a2 : Int32) (a3 : Int32) (a4 : Int32), ∀ MC MR, Rel MC MR → ∃ (ρ : Int32) (QC QR : xM → Prop), Sp (fX5_carry 200) (.ref 0 :: [.int a0, .int a1, .int a2, .int a3, .int a4]) MC (fun r M' => r = some (.int ρ) ∧ QC M') ∧ Sp (fX6_carry 200) (.ref 0 :: [.int a0, .int a1, .int a2, .int a3, .int a4]) MR (fun r M' => r = some (.int ρ) ∧ QR M') ∧ ∀ MC' MR', QC MC' → QR MR' → Rel MC' MR'
def Fc_convert (Rel : xM → xM → Prop) : Prop := ∀ (a0 : Int32) (a1 : Int32), ∀ MC MR, Rel MC MR → ∃ (ρ : Int32) (QC QR : xM → Prop), Sp (fX5_convert 200) (.ref 0 :: [.int a0, .int a1]) MC (fun r M' => r = some (.int ρ) ∧ QC M') ∧ Sp (fX6_convert 200) (.ref 0 :: [.int a0, .int a1]) MR (fun r M' => r = some (.int ρ) ∧ QR M') ∧ ∀ MC' MR', QC MC' → QR MR' → Rel MC' MR'
def Fc_shape (Rel : xM → xM → Prop) : Prop := ∀ (a0 : Int32) (a1 : Int32), ∀ MC MR, Rel MC MR → ∃ (ρ : Int32) (QC QR : xM → Prop), Sp (fX5_shape 200) (.ref 0 :: [.int a0, .int a1]) MC (fun r M' => r = some (.int ρ) ∧ QC M') ∧ Sp (fX6_shape 200) (.ref 0 :: [.int a0, .int a1]) MR (fun r M' => r = some (.int ρ) ∧ QR M') ∧ ∀ MC' MR', QC MC' → QR MR' → Rel MC' MR'
def Fc_sum (Rel : xM → xM → Prop) : Prop := ∀ (a0 : Int32) (a1 : Int32), ∀ MC MR, Rel MC MR → ∃ (ρ : Int64) (QC QR : xM → Prop), Sp (fX5_sum 200) (.ref 0 :: [.int a0, .int a1]) MC (fun r M' => r = some (.long ρ) ∧ QC M') ∧ Sp (fX6_sum 200) (.ref 0 :: [.int a0, .int a1]) MR (fun r M' => r = some (.long ρ) ∧ QR M') ∧ ∀ MC' MR', QC MC' → QR MR' → Rel MC' MR'
def Fc_mode (Rel : xM → xM → Prop) : Prop := ∀ (a0 : Int32), ∀ MC MR, Rel MC MR → ∃ (ρ : Int32) (QC QR : xM → Prop), Sp (fX5_mode 200) (.ref 0 :: [.int a0]) MC (fun r M' => r = some (.int ρ) ∧ QC M') ∧ Sp (fX6_mode 200) (.ref 0 :: [.int a0]) MR (fun r M' => r = some (.int ρ) ∧ QR M') ∧ ∀ MC' MR', QC MC' → QR MR' → Rel MC' MR'
def Fc_lay (Rel : xM → xM → Prop) : Prop := ∀ (a0 : Int32), ∀ MC MR, Rel MC MR → ∃ (ρ : Int32) (QC QR : xM → Prop), Sp (fX5_lay 200) (.ref 0 :: [.int a0]) MC (fun r M' => r = some (.int ρ) ∧ QC M') ∧ Sp (fX6_lay 200) (.ref 0 :: [.int a0]) MR (fun r M' => r = some (.int ρ) ∧ QR M') ∧ ∀ MC' MR', QC MC' → QR MR' → Rel MC' MR'
def Fc_tape (Rel : xM → xM → Prop) : Prop := ∀ (a0 : Int32), ∀ MC MR, Rel MC MR → ∃ (ρ : Int32) (QC QR : xM → Prop), Sp (fX5_tape 200) (.ref 0 :: [.int a0]) MC (fun r M' => r = some (.int ρ) ∧ QC M') ∧ Sp (fX6_tape 200) (.ref 0 :: [.int a0]) MR (fun r M' => r = some (.int ρ) ∧ QR M') ∧ ∀ MC' MR', QC MC' → QR MR' → Rel MC' MR'
def Fc_poke (Rel : xM → xM → Prop) : Prop := ∀ (a0 : Int32) (a1 : Int32), ∀ MC MR, Rel MC MR → ∃ (ρ : Int32) (QC QR : xM → Prop), Sp (fX5_poke 200) (.ref 0 :: [.int a0, .int a1]) MC (fun r M' => r = some (.int ρ) ∧ QC M') ∧ Sp (fX6_poke 200) (.ref 0 :: [.int a0, .int a1]) MR (fun r M' => r = some (.int ρ) ∧ QR M') ∧ ∀ MC' MR', QC MC' → QR MR' → Rel MC' MR'
def Fc_cut (Rel : xM → xM → Prop) : Prop := ∀ (a0 : Int32), ∀ MC MR, Rel MC MR → ∃ (ρ : Int32) (QC QR : xM → Prop), Sp (fX5_cut 200) (.ref 0 :: [.int a0]) MC (fun r M' => r = some (.int ρ) ∧ QC M') ∧ Sp (fX6_cut 200) (.ref 0 :: [.int a0]) MR (fun r M' => r = some (.int ρ) ∧ QR M') ∧ ∀ MC' MR', QC MC' → QR MR' → Rel MC' MR'
def Fc_seek (Rel : xM → xM → Prop) : Prop := ∀ (a0 : Int32), ∀ MC MR, Rel MC MR → ∃ (ρ : Int32) (QC QR : xM → Prop), Sp (fX5_seek 200) (.ref 0 :: [.int a0]) MC (fun r M' => r = some (.int ρ) ∧ QC M') ∧ Sp (fX6_seek 200) (.ref 0 :: [.int a0]) MR (fun r M' => r = some (.int ρ) ∧ QR M') ∧ ∀ MC' MR', QC MC' → QR MR' → Rel MC' MR'
def Fc_read (Rel : xM → xM → Prop) : Prop := ∀ MC MR, Rel MC MR → ∃ (ρ : Int32) (QC QR : xM → Prop), Sp (fX5_read 200) (.ref 0 :: []) MC (fun r M' => r = some (.int ρ) ∧ QC M') ∧ Sp (fX6_read 200) (.ref 0 :: []) MR (fun r M' => r = some (.int ρ) ∧ QR M') ∧ ∀ MC' MR', QC MC' → QR MR' → Rel MC' MR'
def Fc_readAs (Rel : xM → xM → Prop) : Prop := ∀ (a0 : Int32), ∀ MC MR, Rel MC MR → ∃ (ρ : Int32) (QC QR : xM → Prop), Sp (fX5_readAs 200) (.ref 0 :: [.int a0]) MC (fun r M' => r = some (.int ρ) ∧ QC M') ∧ Sp (fX6_readAs 200) (.ref 0 :: [.int a0]) MR (fun r M' => r = some (.int ρ) ∧ QR M') ∧ ∀ MC' MR', QC MC' → QR MR' → Rel MC' MR'
def Fc_skip (Rel : xM → xM → Prop) : Prop := ∀ MC MR, Rel MC MR → ∃ (ρ : Int32) (QC QR : xM → Prop), Sp (fX5_skip 200) (.ref 0 :: []) MC (fun r M' => r = some (.int ρ) ∧ QC M') ∧ Sp (fX6_skip 200) (.ref 0 :: []) MR (fun r M' => r = some (.int ρ) ∧ QR M') ∧ ∀ MC' MR', QC MC' → QR MR' → Rel MC' MR'
def Fc_relay (Rel : xM → xM → Prop) : Prop := ∀ (a0 : Int32), ∀ MC MR, Rel MC MR → ∃ (ρ : Int32) (QC QR : xM → Prop), Sp (fX5_relay 200) (.ref 0 :: [.int a0]) MC (fun r M' => r = some (.int ρ) ∧ QC M') ∧ Sp (fX6_relay 200) (.ref 0 :: [.int a0]) MR (fun r M' => r = some (.int ρ) ∧ QR M') ∧ ∀ MC' MR', QC MC' → QR MR' → Rel MC' MR'
def Fc_slack (Rel : xM → xM → Prop) : Prop := ∀ (a0 : Int32), ∀ MC MR, Rel MC MR → ∃ (ρ : Int32) (QC QR : xM → Prop), Sp (fX5_slack 200) (.ref 0 :: [.int a0]) MC (fun r M' => r = some (.int ρ) ∧ QC M') ∧ Sp (fX6_slack 200) (.ref 0 :: [.int a0]) MR (fun r M' => r = some (.int ρ) ∧ QR M') ∧ ∀ MC' MR', QC MC' → QR MR' → Rel MC' MR'
def Fc_find (Rel : xM → xM → Prop) : Prop := ∀ (a0 : Int32), ∀ MC MR, Rel MC MR → ∃ (ρ : Int32) (QC QR : xM → Prop), Sp (fX5_find 200) (.ref 0 :: [.int a0]) MC (fun r M' => r = some (.int ρ) ∧ QC M') ∧ Sp (fX6_find 200) (.ref 0 :: [.int a0]) MR (fun r M' => r = some (.int ρ) ∧ QR M') ∧ ∀ MC' MR', QC MC' → QR MR' → Rel MC' MR'
def Fc_laid (Rel : xM → xM → Prop) : Prop := ∀ (a0 : Int32) (a1 : Int32), ∀ MC MR, Rel MC MR → ∃ (ρ : Int32) (QC QR : xM → Prop), Sp (fX5_laid 200) (.ref 0 :: [.int a0, .int a1]) MC (fun r M' => r = some (.int ρ) ∧ QC M') ∧ Sp (fX6_laid 200) (.ref 0 :: [.int a0, .int a1]) MR (fun r M' => r = some (.int ρ) ∧ QR M') ∧ ∀ MC' MR', QC MC' → QR MR' → Rel MC' MR'
def Fc_part (Rel : xM → xM → Prop) : Prop := ∀ (a0 : Int32) (a1 : Int32), ∀ MC MR, Rel MC MR → ∃ (ρ : Int32) (QC QR : xM → Prop), Sp (fX5_part 200) (.ref 0 :: [.int a0, .int a1]) MC (fun r M' => r = some (.int ρ) ∧ QC M') ∧ Sp (fX6_part 200) (.ref 0 :: [.int a0, .int a1]) MR (fun r M' => r = some (.int ρ) ∧ QR M') ∧ ∀ MC' MR', QC MC' → QR MR' → Rel MC' MR'
def Fc_hangs (Rel : xM → xM → Prop) : Prop := ∀ (a0 : Int32), ∀ MC MR, Rel MC MR → ∃ (ρ : Int32) (QC QR : xM → Prop), Sp (fX5_hangs 200) (.ref 0 :: [.int a0]) MC (fun r M' => r = some (.int ρ) ∧ QC M') ∧ Sp (fX6_hangs 200) (.ref 0 :: [.int a0]) MR (fun r M' => r = some (.int ρ) ∧ QR M') ∧ ∀ MC' MR', QC MC' → QR MR' → Rel MC' MR'
def Fc_far (Rel : xM → xM → Prop) : Prop := ∀ (a0 : Int32) (a1 : Int32), ∀ MC MR, Rel MC MR → ∃ (ρ : Int32) (QC QR : xM → Prop), Sp (fX5_far 200) (.ref 0 :: [.int a0, .int a1]) MC (fun r M' => r = some (.int ρ) ∧ QC M') ∧ Sp (fX6_far 200) (.ref 0 :: [.int a0, .int a1]) MR (fun r M' => r = some (.int ρ) ∧ QR M') ∧ ∀ MC' MR', QC MC' → QR MR' → Rel MC' MR'
def Fc_twin (Rel : xM → xM → Prop) : Prop := ∀ (a0 : Int32), ∀ MC MR, Rel MC MR → ∃ (ρ : Int32) (QC QR : xM → Prop), Sp (fX5_twin 200) (.ref 0 :: [.int a0]) MC (fun r M' => r = some (.int ρ) ∧ QC M') ∧ Sp (fX6_twin 200) (.ref 0 :: [.int a0]) MR (fun r M' => r = some (.int ρ) ∧ QR M') ∧ ∀ MC' MR', QC MC' → QR MR' → Rel MC' MR'
def Fc_called (Rel : xM → xM → Prop) : Prop := ∀ (a0 : Int32), ∀ MC MR, Rel MC MR → ∃ (ρ : Int64) (QC QR : xM → Prop), Sp (fX5_called 200) (.ref 0 :: [.int a0]) MC (fun r M' => r = some (.long ρ) ∧ QC M') ∧ Sp (fX6_called 200) (.ref 0 :: [.int a0]) MR (fun r M' => r = some (.long ρ) ∧ QR M') ∧ ∀ MC' MR', QC MC' → QR MR' → Rel MC' MR'
def Fc_named (Rel : xM → xM → Prop) : Prop := ∀ (a0 : Int64), ∀ MC MR, Rel MC MR → ∃ (ρ : Int32) (QC QR : xM → Prop), Sp (fX5_named 200) (.ref 0 :: [.long a0]) MC (fun r M' => r = some (.int ρ) ∧ QC M') ∧ Sp (fX6_named 200) (.ref 0 :: [.long a0]) MR (fun r M' => r = some (.int ρ) ∧ QR M') ∧ ∀ MC' MR', QC MC' → QR MR' → Rel MC' MR'
def Fc_count (Rel : xM → xM → Prop) : Prop := ∀ (a0 : Int32), ∀ MC MR, Rel MC MR → ∃ (ρ : Int32) (QC QR : xM → Prop), Sp (fX5_count 200) (.ref 0 :: [.int a0]) MC (fun r M' => r = some (.int ρ) ∧ QC M') ∧ Sp (fX6_count 200) (.ref 0 :: [.int a0]) MR (fun r M' => r = some (.int ρ) ∧ QR M') ∧ ∀ MC' MR', QC MC' → QR MR' → Rel MC' MR'
section LWC
variable {p : Program} {l : Launch} {e : Env} {s : State} {m : MethodId} {args : Array Value} {below : List Frame} {meth : Method} {c : Code} {H : Heap} {locs : List Loc} {Q : State → Prop} {pc cs ss : Nat} {ls : Array Slot}
theorem lw_callV {K : xK} {G : xF} {M : xM} {post' : Option Value → xM → Prop} {i n ci : Nat} {stk : List Value} (As rest : List Value) (hx : p.tables.exec = Jvm.exec) (hb : c.code = code) (hml : c.maxLocals = 4) (hown : s.vm.findClass RL = some m.cls) (hts : ∀ w ∈ gt, w.before args s = true) (hU : xU K s) (hP : xP K false M H) (hS : va_S (fun q => s.heap.size ≤ q) s.heap H locs) (hA : ∀ q, kA K q → s.heap.size ≤ q) (hs : Sp G (.ref 0 :: As) M post') (hd : decode code pc = .ok (.invokevirtual i, 3)) (hl : xML RL i G.1 G.2.1 G.2.2.1 G.2.2.2.1 n) (hi : Cond.instanceMethod G.1 ∈ gt ∧ Cond.selects G.1.cls G.1 G.1 ∈ gt) (hb0 : mS M 0 = (0, ci)) (hbn : 0 < mN M) (hc : vwCl[ci]?.map (fun q => q.1) = some G.1.cls) (hn : As.length = n) (hdp : G.2.2.2.2.2.2.1 ≤ 1000) (hal : G.2.2.2.2.2.1 = false) (hz1 : G.2.2.2.2.2.2.2.1 = 0) (hz2 : G.2.2.2.2.2.2.2.2 = 0) (hAs : As.map (cv K) = As) (hst : stk = As.reverse ++ .ref (kB K) :: rest) (hw : (rest.map fun v => v.category).sum ≤ 8) (hls : ls.size = 4) (hk1 : cs ≤ 600000) (hk2 : ss ≤ 7302250)
    (k : ∀ r M' H' locs', post' r M' → xP K false M' H' → (∀ q : Nat, q < H.size → ¬ kA K q → H'[q]? = H[q]?) → va_S (fun q => s.heap.size ≤ q) s.heap H' locs' → W p l e room_1 s m args below meth c H' locs' cs ss Q (F0 m (pc + 3) ls ((r.map (cv K)).toList ++ rest))) : W p l e room_1 s m args below meth c H locs cs ss Q (F0 m pc ls stk) := by
  obtain ⟨l1, l2, l3, l4, l5⟩ := hl
  cases hcc : vwCl[ci]? with
  | none => rw [hcc] at hc; cases hc
  | some q =>
    rw [hcc] at hc
    have hq : q.1 = G.1.cls := Option.some.inj hc
    subst hst
    have h0 : kad K 0 = kB K := (kad_lt hP hbn).trans (Nat.add_zero _)
    have hmp2 : (Value.ref (kB K) :: As) = ((.ref 0 :: As).map (cv K)) := by
      rw [List.map_cons, hAs, ← h0]
      rfl
    have hrv : ∃ cell : Cell, H[kB K]? = some cell ∧ cell.vm.isStatics = false ∧ s.vm.findClass q.1 = some cell.cls := by
      have h := va_recv hU.1 (hP.one hbn (xcell0 hb0)) hcc (q0 := 0) rfl
      rw [Nat.add_zero] at h
      exact h
    have hpre : ∀ U : State, U.heap = H → s.WarmedH U.vm → xPc K G.2.2.2.2.2.1 (.ref 0 :: As) M (Value.ref (kB K) :: As).toArray U := by
      intro U hUH hW
      rw [hmp2]
      refine ⟨rfl, xU.moved hW (fun a h1 h2 => by rw [hUH]; exact hS.2.1 a h1 (Nat.not_le.mpr h1)) hU, fun h => ?_, ?_⟩
      · rw [hal] at h; cases h
      · rw [hal, hUH]; exact hP
    have hrun := va_runV (Pc := xPc K G.2.2.2.2.2.1 (.ref 0 :: As) M) (C := G.1.cls) (b := kB K) (As := As) (rest := rest) (g := F0 m pc ls (As.reverse ++ .ref (kB K) :: rest)) (locs := locs) (cells := cs) (slots := ss) (R := room_1) (e := e) (below := below) (meth := meth) ⟨hx, hb, hml, hown, hts⟩ (hs K l) ⟨callB_of n hts (gt_in l3) rfl rfl rfl (hts _ l2) (hts _ l1) l4 ⟨show G.2.2.2.2.2.2.1 + 1 ≤ 2048 by omega, show 8 + (G.2.2.1 + 11) + 64 * G.2.2.2.2.2.2.1 ≤ 84000 by omega⟩, hts _ hi.1, hts _ hi.2⟩
      ⟨xPc_blind _ _ _ _, by rw [← hq]; exact hrv, hpre⟩ rfl hn hls rfl (lv_room hw) hd (by rw [hz1, hz2]; exact ⟨hk1, hk2⟩)
    intro T hT X
    obtain ⟨v, st₀, t, T', L, h1, X', hL, e1, e2, ⟨⟨r, M', hr, hpost, hP'⟩, hz, hkeep⟩, go⟩ := hrun T hT X
    have hv : v = r.map (cv K) := by cases hr; rfl
    subst hv
    rw [h1] at hz hkeep
    rw [hal] at hP'
    rw [hz1, hz2] at X'
    obtain ⟨t2, a1, b1⟩ := k r M' T'.heap (locs ++ L) hpost (by rw [e1]; exact hP') (fun q g1 g2 => by rw [e1]; exact hkeep q g1 g2)
      ⟨Nat.le_trans hS.1 (by rw [e1]; exact hz), fun q g1 g2 => by rw [e1, hkeep q (Nat.lt_of_lt_of_le g1 hS.1) (fun z => g2 (hA q z))]; exact hS.2.1 q g1 g2, fun q hq => by
        rcases List.mem_append.mp hq with h | h
        · exact hS.2.2 q h
        · exact hA _ (hL q h)⟩ T' rfl X'
    exact ⟨t2, go t2 a1, b1⟩
theorem lw_sld {b L : Nat} {xs : Nat → Int32} (j : Nat) {x : Int32} {rest : List Value} (hx : p.tables.exec = Jvm.exec) (hb : c.code = code) (hX : va_X b L xs s s.heap) (hbl : b < s.heap.size) (hS : va_S (fun q => s.heap.size ≤ q) s.heap H locs) (hj : x = nI j) (hlt : j < L) (hL : L ≤ 3072) (hd : decode code pc = .ok (.iaload, 1)) (k : W p l e room_1 s m args below meth c H locs cs ss Q (F0 m (pc + 1) ls (.int (xs j) :: rest))) : W p l e room_1 s m args below meth c H locs cs ss Q (F0 m pc ls (.int x :: .ref b :: rest)) := by
  subst hj
  refine va_sld hx hb hX hbl (Nat.not_le.mpr hbl) hS (vp_in_nI hlt (by omega)) hd ?_
  rw [nI_clamp (by omega)]
  exact k
end LWC
/-- what holds in the law's loop, whatever its turn -/
def lwX (p : Program) (s : State) (m : MethodId) (meth : Method) (c : Code) (b L : Nat) (xs : Nat → Int32) (KC KR : xK) : Prop :=
  p.tables.exec = Jvm.exec ∧ c.code = code ∧ c.maxLocals = 4 ∧ s.vm.findClass RL = some m.cls ∧ (∀ w ∈ gt, w.before #[Value.ref b] s = true) ∧ va_X b L xs s s.heap ∧ b < s.heap.size ∧ L ≤ 3072 ∧ xU KC s ∧ xU KR s ∧ (∀ q, kA KC q → s.heap.size ≤ q) ∧ (∀ q, kA KR q → s.heap.size ≤ q) ∧ (∀ q, kA KC q → ¬ kA KR q)
/-- the loop's state: both worlds, at H -/
def lwS (Rel : xM → xM → Prop) (s : State) (KC KR : xK) (MC MR : xM) (H : Heap) (locs : List Loc) : Prop :=
  Rel MC MR ∧ xP KC false MC H ∧ xP KR false MR H ∧ va_S (fun q => s.heap.size ≤ q) s.heap H locs
set_option maxRecDepth 100000 in
theorem law_make {p : Program} {l : Launch} {e : Env} {s : State} {m : MethodId} {below : List Frame} {meth : Method} {c : Code} {b L : Nat} {xs : Nat → Int32} {KC KR : xK} {Rel : xM → xM → Prop} {Q : State → Prop} {cs ss : Nat} (hk1 : cs ≤ 600000) (hk2 : ss ≤ 7302250) (hC : lwX p s m meth c b L xs KC KR) (hTop : ∀ MC MR, Rel MC MR → mS MC 0 = (0, 4) ∧ 0 < mN MC ∧ mS MR 0 = (0, 5) ∧ 0 < mN MR) (hF : Fc_make Rel) (i : Nat) (hi : i + 6 ≤ L) {MC MR : xM} {H : Heap} {locs : List Loc} (hst : lwS Rel s KC KR MC MR H locs) (ls : Array Slot) (hl : lv_has ls 4 [(3, .int (nI i)), (0, .ref b), (1, .ref (kB KC)), (2, .ref (kB KR))])
    (kk : ∀ (MC MR : xM) (H : Heap) (locs : List Loc) (ls : Array Slot), lv_has ls 4 [(3, .int (nI i)), (0, .ref b), (1, .ref (kB KC)), (2, .ref (kB KR))] → lwS Rel s KC KR MC MR H locs → W p l e room_1 s m #[Value.ref b] below meth c H locs cs ss Q (F0 m 1411 ls [])) : W p l e room_1 s m #[Value.ref b] below meth c H locs cs ss Q (F0 m 196 ls []) := by
  obtain ⟨hx, hb, hml, hown, hts, hX, hbl, hL, hUC, hUR, hAC, hAR, hCR⟩ := hC
  obtain ⟨hR, hPC, hPR, hS⟩ := hst
  refine lv_aload_n hx hb dL_law_196 rfl (lv_at hl 2 rfl) ?_
  refine lv_aload_n hx hb dL_law_197 rfl (lv_at hl 1 rfl) ?_
  refine lv_iload_n hx hb dL_law_198 rfl (lv_at hl 0 rfl) ?_
  refine lv_iconst (v := 1) hx hb dL_law_199 (by decide) ?_
  refine lv_iadd hx hb dL_law_200 ?_
  refine lw_sld (i + 1) hx hb hX hbl hS (nI_add i 1) (by omega) hL dL_law_201 ?_
  refine lv_aload_n hx hb dL_law_202 rfl (lv_at hl 1 rfl) ?_
  refine lv_iload_n hx hb dL_law_203 rfl (lv_at hl 0 rfl) ?_
  refine lv_iconst (v := 2) hx hb dL_law_204 (by decide) ?_
  refine lv_iadd hx hb dL_law_205 ?_
  refine lw_sld (i + 2) hx hb hX hbl hS (nI_add i 2) (by omega) hL dL_law_206 ?_
  refine lv_i2l hx hb dL_law_207 rfl ?_
  refine lv_bipush (v := 32) hx hb dL_law_208 (by decide) ?_
  refine lv_lshl hx hb dL_law_210 rfl ?_
  refine lv_aload_n hx hb dL_law_211 rfl (lv_at hl 1 rfl) ?_
  refine lv_iload_n hx hb dL_law_212 rfl (lv_at hl 0 rfl) ?_
  refine lv_iconst (v := 3) hx hb dL_law_213 (by decide) ?_
  refine lv_iadd hx hb dL_law_214 ?_
  refine lw_sld (i + 3) hx hb hX hbl hS (nI_add i 3) (by omega) hL dL_law_215 ?_
  refine lv_i2l hx hb dL_law_216 rfl ?_
  refine lv_ldc2 hx hb hown (hts _ kc_L_13) dL_law_217 ?_
  refine lv_land hx hb dL_law_220 ?_
  refine lv_lor hx hb dL_law_221 ?_
  obtain ⟨ρ, QC, QR, hsC, hsR, hnx⟩ := hF (xs (i + 1)) (((xs (i + 2)).toInt64 <<< ((Int32.toInt64 32) &&& 63)) ||| (((xs (i + 3)).toInt64) &&& (4294967295))) MC MR hR
  refine lw_callV (K := KC) (M := MC) (ci := 4) [.int (xs (i + 1)), .long (((xs (i + 2)).toInt64 <<< ((Int32.toInt64 32) &&& 63)) ||| (((xs (i + 3)).toInt64) &&& (4294967295)))] [] hx hb hml hown hts hUC hPC hS hAC hsC dL_law_222 ml_L_15 im_X5_make (hTop MC MR hR).1 (hTop MC MR hR).2.1 rfl rfl (by decide) rfl rfl rfl rfl rfl (Nat.le_of_ble_eq_true rfl) hl.1 hk1 hk2 (fun r M' H' locs' hq hP' hkp hS => ?_)
  obtain ⟨rfl, hQC⟩ := hq
  have hPR := hPR.kept (H1 := H') (fun j hj => hkp _ ((hPR.1 j hj).lt) (fun z => hCR _ z (hPR.2.1 j hj))) (fun h => by cases h)
  have hPC := hP'
  refine W.eq (g2 := F0 m 225 ls (.int ρ :: [])) rfl ?_
  refine lv_aload_n hx hb dL_law_225 rfl (lv_at hl 3 rfl) ?_
  refine lv_aload_n hx hb dL_law_226 rfl (lv_at hl 1 rfl) ?_
  refine lv_iload_n hx hb dL_law_227 rfl (lv_at hl 0 rfl) ?_
  refine lv_iconst (v := 1) hx hb dL_law_228 (by decide) ?_
  refine lv_iadd hx hb dL_law_229 ?_
  refine lw_sld (i + 1) hx hb hX hbl hS (nI_add i 1) (by omega) hL dL_law_230 ?_
  refine lv_aload_n hx hb dL_law_231 rfl (lv_at hl 1 rfl) ?_
  refine lv_iload_n hx hb dL_law_232 rfl (lv_at hl 0 rfl) ?_
  refine lv_iconst (v := 2) hx hb dL_law_233 (by decide) ?_
  refine lv_iadd hx hb dL_law_234 ?_
  refine lw_sld (i + 2) hx hb hX hbl hS (nI_add i 2) (by omega) hL dL_law_235 ?_
  refine lv_i2l hx hb dL_law_236 rfl ?_
  refine lv_bipush (v := 32) hx hb dL_law_237 (by decide) ?_
  refine lv_lshl hx hb dL_law_239 rfl ?_
  refine lv_aload_n hx hb dL_law_240 rfl (lv_at hl 1 rfl) ?_
  refine lv_iload_n hx hb dL_law_241 rfl (lv_at hl 0 rfl) ?_
  refine lv_iconst (v := 3) hx hb dL_law_242 (by decide) ?_
  refine lv_iadd hx hb dL_law_243 ?_
  refine lw_sld (i + 3) hx hb hX hbl hS (nI_add i 3) (by omega) hL dL_law_244 ?_
  refine lv_i2l hx hb dL_law_245 rfl ?_
  refine lv_ldc2 hx hb hown (hts _ kc_L_13) dL_law_246 ?_
  refine lv_land hx hb dL_law_249 ?_
  refine lv_lor hx hb dL_law_250 ?_
  refine lw_callV (K := KR) (M := MR) (ci := 5) [.int (xs (i + 1)), .long (((xs (i + 2)).toInt64 <<< ((Int32.toInt64 32) &&& 63)) ||| (((xs (i + 3)).toInt64) &&& (4294967295)))] [.int ρ] hx hb hml hown hts hUR hPR hS hAR hsR dL_law_251 ml_L_19 im_X6_make (hTop MC MR hR).2.2.1 (hTop MC MR hR).2.2.2 rfl rfl (by decide) rfl rfl rfl rfl rfl (Nat.le_of_ble_eq_true rfl) hl.1 hk1 hk2 (fun r M' H' locs' hq hP' hkp hS => ?_)
  obtain ⟨rfl, hQR⟩ := hq
  have hPC := hPC.kept (H1 := H') (fun j hj => hkp _ ((hPC.1 j hj).lt) (fun z => hCR _ (hPC.2.1 j hj) z)) (fun h => by cases h)
  refine W.eq (g2 := F0 m 254 ls (.int ρ :: [.int ρ])) rfl ?_
  refine lv_icmp_eq (tgt := 1411) hx hb dL_law_254 (by decide) (fun _ => ?_) (fun z => absurd rfl z)
  exact kk _ _ _ _ ls hl ⟨hnx _ _ hQC hQR, hPC, hP', hS⟩
set_option maxRecDepth 100000 in
theorem law_kind {p : Program} {l : Launch} {e : Env} {s : State} {m : MethodId} {below : List Frame} {meth : Method} {c : Code} {b L : Nat} {xs : Nat → Int32} {KC KR : xK} {Rel : xM → xM → Prop} {Q : State → Prop} {cs ss : Nat} (hk1 : cs ≤ 600000) (hk2 : ss ≤ 7302250) (hC : lwX p s m meth c b L xs KC KR) (hTop : ∀ MC MR, Rel MC MR → mS MC 0 = (0, 4) ∧ 0 < mN MC ∧ mS MR 0 = (0, 5) ∧ 0 < mN MR) (hF : Fc_kind Rel) (i : Nat) (hi : i + 6 ≤ L) {MC MR : xM} {H : Heap} {locs : List Loc} (hst : lwS Rel s KC KR MC MR H locs) (ls : Array Slot) (hl : lv_has ls 4 [(3, .int (nI i)), (0, .ref b), (1, .ref (kB KC)), (2, .ref (kB KR))])
    (kk : ∀ (MC MR : xM) (H : Heap) (locs : List Loc) (ls : Array Slot), lv_has ls 4 [(3, .int (nI i)), (0, .ref b), (1, .ref (kB KC)), (2, .ref (kB KR))] → lwS Rel s KC KR MC MR H locs → W p l e room_1 s m #[Value.ref b] below meth c H locs cs ss Q (F0 m 1411 ls [])) : W p l e room_1 s m #[Value.ref b] below meth c H locs cs ss Q (F0 m 259 ls []) := by
  obtain ⟨hx, hb, hml, hown, hts, hX, hbl, hL, hUC, hUR, hAC, hAR, hCR⟩ := hC
  obtain ⟨hR, hPC, hPR, hS⟩ := hst
  refine lv_aload_n hx hb dL_law_259 rfl (lv_at hl 2 rfl) ?_
  refine lv_aload_n hx hb dL_law_260 rfl (lv_at hl 1 rfl) ?_
  refine lv_iload_n hx hb dL_law_261 rfl (lv_at hl 0 rfl) ?_
  refine lv_iconst (v := 1) hx hb dL_law_262 (by decide) ?_
  refine lv_iadd hx hb dL_law_263 ?_
  refine lw_sld (i + 1) hx hb hX hbl hS (nI_add i 1) (by omega) hL dL_law_264 ?_
  obtain ⟨ρ, QC, QR, hsC, hsR, hnx⟩ := hF (xs (i + 1)) MC MR hR
  refine lw_callV (K := KC) (M := MC) (ci := 4) [.int (xs (i + 1))] [] hx hb hml hown hts hUC hPC hS hAC hsC dL_law_265 ml_L_20 im_X5_kind (hTop MC MR hR).1 (hTop MC MR hR).2.1 rfl rfl (by decide) rfl rfl rfl rfl rfl (Nat.le_of_ble_eq_true rfl) hl.1 hk1 hk2 (fun r M' H' locs' hq hP' hkp hS => ?_)
  obtain ⟨rfl, hQC⟩ := hq
  have hPR := hPR.kept (H1 := H') (fun j hj => hkp _ ((hPR.1 j hj).lt) (fun z => hCR _ z (hPR.2.1 j hj))) (fun h => by cases h)
  have hPC := hP'
  refine W.eq (g2 := F0 m 268 ls (.int ρ :: [])) rfl ?_
  refine lv_aload_n hx hb dL_law_268 rfl (lv_at hl 3 rfl) ?_
  refine lv_aload_n hx hb dL_law_269 rfl (lv_at hl 1 rfl) ?_
  refine lv_iload_n hx hb dL_law_270 rfl (lv_at hl 0 rfl) ?_
  refine lv_iconst (v := 1) hx hb dL_law_271 (by decide) ?_
  refine lv_iadd hx hb dL_law_272 ?_
  refine lw_sld (i + 1) hx hb hX hbl hS (nI_add i 1) (by omega) hL dL_law_273 ?_
  refine lw_callV (K := KR) (M := MR) (ci := 5) [.int (xs (i + 1))] [.int ρ] hx hb hml hown hts hUR hPR hS hAR hsR dL_law_274 ml_L_24 im_X6_kind (hTop MC MR hR).2.2.1 (hTop MC MR hR).2.2.2 rfl rfl (by decide) rfl rfl rfl rfl rfl (Nat.le_of_ble_eq_true rfl) hl.1 hk1 hk2 (fun r M' H' locs' hq hP' hkp hS => ?_)
  obtain ⟨rfl, hQR⟩ := hq
  have hPC := hPC.kept (H1 := H') (fun j hj => hkp _ ((hPC.1 j hj).lt) (fun z => hCR _ (hPC.2.1 j hj) z)) (fun h => by cases h)
  refine W.eq (g2 := F0 m 277 ls (.int ρ :: [.int ρ])) rfl ?_
  refine lv_icmp_eq (tgt := 1411) hx hb dL_law_277 (by decide) (fun _ => ?_) (fun z => absurd rfl z)
  exact kk _ _ _ _ ls hl ⟨hnx _ _ hQC hQR, hPC, hP', hS⟩
set_option maxRecDepth 100000 in
theorem law_size {p : Program} {l : Launch} {e : Env} {s : State} {m : MethodId} {below : List Frame} {meth : Method} {c : Code} {b L : Nat} {xs : Nat → Int32} {KC KR : xK} {Rel : xM → xM → Prop} {Q : State → Prop} {cs ss : Nat} (hk1 : cs ≤ 600000) (hk2 : ss ≤ 7302250) (hC : lwX p s m meth c b L xs KC KR) (hTop : ∀ MC MR, Rel MC MR → mS MC 0 = (0, 4) ∧ 0 < mN MC ∧ mS MR 0 = (0, 5) ∧ 0 < mN MR) (hF : Fc_size Rel) (i : Nat) (hi : i + 6 ≤ L) {MC MR : xM} {H : Heap} {locs : List Loc} (hst : lwS Rel s KC KR MC MR H locs) (ls : Array Slot) (hl : lv_has ls 4 [(3, .int (nI i)), (0, .ref b), (1, .ref (kB KC)), (2, .ref (kB KR))])
    (kk : ∀ (MC MR : xM) (H : Heap) (locs : List Loc) (ls : Array Slot), lv_has ls 4 [(3, .int (nI i)), (0, .ref b), (1, .ref (kB KC)), (2, .ref (kB KR))] → lwS Rel s KC KR MC MR H locs → W p l e room_1 s m #[Value.ref b] below meth c H locs cs ss Q (F0 m 1411 ls [])) : W p l e room_1 s m #[Value.ref b] below meth c H locs cs ss Q (F0 m 282 ls []) := by
  obtain ⟨hx, hb, hml, hown, hts, hX, hbl, hL, hUC, hUR, hAC, hAR, hCR⟩ := hC
  obtain ⟨hR, hPC, hPR, hS⟩ := hst
  refine lv_aload_n hx hb dL_law_282 rfl (lv_at hl 2 rfl) ?_
  refine lv_aload_n hx hb dL_law_283 rfl (lv_at hl 1 rfl) ?_
  refine lv_iload_n hx hb dL_law_284 rfl (lv_at hl 0 rfl) ?_
  refine lv_iconst (v := 1) hx hb dL_law_285 (by decide) ?_
  refine lv_iadd hx hb dL_law_286 ?_
  refine lw_sld (i + 1) hx hb hX hbl hS (nI_add i 1) (by omega) hL dL_law_287 ?_
  obtain ⟨ρ, QC, QR, hsC, hsR, hnx⟩ := hF (xs (i + 1)) MC MR hR
  refine lw_callV (K := KC) (M := MC) (ci := 4) [.int (xs (i + 1))] [] hx hb hml hown hts hUC hPC hS hAC hsC dL_law_288 ml_L_25 im_X5_size (hTop MC MR hR).1 (hTop MC MR hR).2.1 rfl rfl (by decide) rfl rfl rfl rfl rfl (Nat.le_of_ble_eq_true rfl) hl.1 hk1 hk2 (fun r M' H' locs' hq hP' hkp hS => ?_)
  obtain ⟨rfl, hQC⟩ := hq
  have hPR := hPR.kept (H1 := H') (fun j hj => hkp _ ((hPR.1 j hj).lt) (fun z => hCR _ z (hPR.2.1 j hj))) (fun h => by cases h)
  have hPC := hP'
  refine W.eq (g2 := F0 m 291 ls (.int ρ :: [])) rfl ?_
  refine lv_aload_n hx hb dL_law_291 rfl (lv_at hl 3 rfl) ?_
  refine lv_aload_n hx hb dL_law_292 rfl (lv_at hl 1 rfl) ?_
  refine lv_iload_n hx hb dL_law_293 rfl (lv_at hl 0 rfl) ?_
  refine lv_iconst (v := 1) hx hb dL_law_294 (by decide) ?_
  refine lv_iadd hx hb dL_law_295 ?_
  refine lw_sld (i + 1) hx hb hX hbl hS (nI_add i 1) (by omega) hL dL_law_296 ?_
  refine lw_callV (K := KR) (M := MR) (ci := 5) [.int (xs (i + 1))] [.int ρ] hx hb hml hown hts hUR hPR hS hAR hsR dL_law_297 ml_L_28 im_X6_size (hTop MC MR hR).2.2.1 (hTop MC MR hR).2.2.2 rfl rfl (by decide) rfl rfl rfl rfl rfl (Nat.le_of_ble_eq_true rfl) hl.1 hk1 hk2 (fun r M' H' locs' hq hP' hkp hS => ?_)
  obtain ⟨rfl, hQR⟩ := hq
  have hPC := hPC.kept (H1 := H') (fun j hj => hkp _ ((hPC.1 j hj).lt) (fun z => hCR _ (hPC.2.1 j hj) z)) (fun h => by cases h)
  refine W.eq (g2 := F0 m 300 ls (.int ρ :: [.int ρ])) rfl ?_
  refine lv_icmp_eq (tgt := 1411) hx hb dL_law_300 (by decide) (fun _ => ?_) (fun z => absurd rfl z)
  exact kk _ _ _ _ ls hl ⟨hnx _ _ hQC hQR, hPC, hP', hS⟩
set_option maxRecDepth 100000 in
theorem law_drop {p : Program} {l : Launch} {e : Env} {s : State} {m : MethodId} {below : List Frame} {meth : Method} {c : Code} {b L : Nat} {xs : Nat → Int32} {KC KR : xK} {Rel : xM → xM → Prop} {Q : State → Prop} {cs ss : Nat} (hk1 : cs ≤ 600000) (hk2 : ss ≤ 7302250) (hC : lwX p s m meth c b L xs KC KR) (hTop : ∀ MC MR, Rel MC MR → mS MC 0 = (0, 4) ∧ 0 < mN MC ∧ mS MR 0 = (0, 5) ∧ 0 < mN MR) (hF : Fc_drop Rel) (i : Nat) (hi : i + 6 ≤ L) {MC MR : xM} {H : Heap} {locs : List Loc} (hst : lwS Rel s KC KR MC MR H locs) (ls : Array Slot) (hl : lv_has ls 4 [(3, .int (nI i)), (0, .ref b), (1, .ref (kB KC)), (2, .ref (kB KR))])
    (kk : ∀ (MC MR : xM) (H : Heap) (locs : List Loc) (ls : Array Slot), lv_has ls 4 [(3, .int (nI i)), (0, .ref b), (1, .ref (kB KC)), (2, .ref (kB KR))] → lwS Rel s KC KR MC MR H locs → W p l e room_1 s m #[Value.ref b] below meth c H locs cs ss Q (F0 m 1411 ls [])) : W p l e room_1 s m #[Value.ref b] below meth c H locs cs ss Q (F0 m 305 ls []) := by
  obtain ⟨hx, hb, hml, hown, hts, hX, hbl, hL, hUC, hUR, hAC, hAR, hCR⟩ := hC
  obtain ⟨hR, hPC, hPR, hS⟩ := hst
  refine lv_aload_n hx hb dL_law_305 rfl (lv_at hl 2 rfl) ?_
  refine lv_aload_n hx hb dL_law_306 rfl (lv_at hl 1 rfl) ?_
  refine lv_iload_n hx hb dL_law_307 rfl (lv_at hl 0 rfl) ?_
  refine lv_iconst (v := 1) hx hb dL_law_308 (by decide) ?_
  refine lv_iadd hx hb dL_law_309 ?_
  refine lw_sld (i + 1) hx hb hX hbl hS (nI_add i 1) (by omega) hL dL_law_310 ?_
  obtain ⟨ρ, QC, QR, hsC, hsR, hnx⟩ := hF (xs (i + 1)) MC MR hR
  refine lw_callV (K := KC) (M := MC) (ci := 4) [.int (xs (i + 1))] [] hx hb hml hown hts hUC hPC hS hAC hsC dL_law_311 ml_L_29 im_X5_drop (hTop MC MR hR).1 (hTop MC MR hR).2.1 rfl rfl (by decide) rfl rfl rfl rfl rfl (Nat.le_of_ble_eq_true rfl) hl.1 hk1 hk2 (fun r M' H' locs' hq hP' hkp hS => ?_)
  obtain ⟨rfl, hQC⟩ := hq
  have hPR := hPR.kept (H1 := H') (fun j hj => hkp _ ((hPR.1 j hj).lt) (fun z => hCR _ z (hPR.2.1 j hj))) (fun h => by cases h)
  have hPC := hP'
  refine W.eq (g2 := F0 m 314 ls (.int ρ :: [])) rfl ?_
  refine lv_aload_n hx hb dL_law_314 rfl (lv_at hl 3 rfl) ?_
  refine lv_aload_n hx hb dL_law_315 rfl (lv_at hl 1 rfl) ?_
  refine lv_iload_n hx hb dL_law_316 rfl (lv_at hl 0 rfl) ?_
  refine lv_iconst (v := 1) hx hb dL_law_317 (by decide) ?_
  refine lv_iadd hx hb dL_law_318 ?_
  refine lw_sld (i + 1) hx hb hX hbl hS (nI_add i 1) (by omega) hL dL_law_319 ?_
  refine lw_callV (K := KR) (M := MR) (ci := 5) [.int (xs (i + 1))] [.int ρ] hx hb hml hown hts hUR hPR hS hAR hsR dL_law_320 ml_L_32 im_X6_drop (hTop MC MR hR).2.2.1 (hTop MC MR hR).2.2.2 rfl rfl (by decide) rfl rfl rfl rfl rfl (Nat.le_of_ble_eq_true rfl) hl.1 hk1 hk2 (fun r M' H' locs' hq hP' hkp hS => ?_)
  obtain ⟨rfl, hQR⟩ := hq
  have hPC := hPC.kept (H1 := H') (fun j hj => hkp _ ((hPC.1 j hj).lt) (fun z => hCR _ (hPC.2.1 j hj) z)) (fun h => by cases h)
  refine W.eq (g2 := F0 m 323 ls (.int ρ :: [.int ρ])) rfl ?_
  refine lv_icmp_eq (tgt := 1411) hx hb dL_law_323 (by decide) (fun _ => ?_) (fun z => absurd rfl z)
  exact kk _ _ _ _ ls hl ⟨hnx _ _ hQC hQR, hPC, hP', hS⟩
set_option maxRecDepth 100000 in
theorem law_gather {p : Program} {l : Launch} {e : Env} {s : State} {m : MethodId} {below : List Frame} {meth : Method} {c : Code} {b L : Nat} {xs : Nat → Int32} {KC KR : xK} {Rel : xM → xM → Prop} {Q : State → Prop} {cs ss : Nat} (hk1 : cs ≤ 600000) (hk2 : ss ≤ 7302250) (hC : lwX p s m meth c b L xs KC KR) (hTop : ∀ MC MR, Rel MC MR → mS MC 0 = (0, 4) ∧ 0 < mN MC ∧ mS MR 0 = (0, 5) ∧ 0 < mN MR) (hF : Fc_gather Rel) (i : Nat) (hi : i + 6 ≤ L) {MC MR : xM} {H : Heap} {locs : List Loc} (hst : lwS Rel s KC KR MC MR H locs) (ls : Array Slot) (hl : lv_has ls 4 [(3, .int (nI i)), (0, .ref b), (1, .ref (kB KC)), (2, .ref (kB KR))])
    (kk : ∀ (MC MR : xM) (H : Heap) (locs : List Loc) (ls : Array Slot), lv_has ls 4 [(3, .int (nI i)), (0, .ref b), (1, .ref (kB KC)), (2, .ref (kB KR))] → lwS Rel s KC KR MC MR H locs → W p l e room_1 s m #[Value.ref b] below meth c H locs cs ss Q (F0 m 1411 ls [])) : W p l e room_1 s m #[Value.ref b] below meth c H locs cs ss Q (F0 m 328 ls []) := by
  obtain ⟨hx, hb, hml, hown, hts, hX, hbl, hL, hUC, hUR, hAC, hAR, hCR⟩ := hC
  obtain ⟨hR, hPC, hPR, hS⟩ := hst
  refine lv_aload_n hx hb dL_law_328 rfl (lv_at hl 2 rfl) ?_
  refine lv_aload_n hx hb dL_law_329 rfl (lv_at hl 1 rfl) ?_
  refine lv_iload_n hx hb dL_law_330 rfl (lv_at hl 0 rfl) ?_
  refine lv_iconst (v := 1) hx hb dL_law_331 (by decide) ?_
  refine lv_iadd hx hb dL_law_332 ?_
  refine lw_sld (i + 1) hx hb hX hbl hS (nI_add i 1) (by omega) hL dL_law_333 ?_
  obtain ⟨ρ, QC, QR, hsC, hsR, hnx⟩ := hF (xs (i + 1)) MC MR hR
  refine lw_callV (K := KC) (M := MC) (ci := 4) [.int (xs (i + 1))] [] hx hb hml hown hts hUC hPC hS hAC hsC dL_law_334 ml_L_33 im_X5_gather (hTop MC MR hR).1 (hTop MC MR hR).2.1 rfl rfl (by decide) rfl rfl rfl rfl rfl (Nat.le_of_ble_eq_true rfl) hl.1 hk1 hk2 (fun r M' H' locs' hq hP' hkp hS => ?_)
  obtain ⟨rfl, hQC⟩ := hq
  have hPR := hPR.kept (H1 := H') (fun j hj => hkp _ ((hPR.1 j hj).lt) (fun z => hCR _ z (hPR.2.1 j hj))) (fun h => by cases h)
  have hPC := hP'
  refine W.eq (g2 := F0 m 337 ls (.int ρ :: [])) rfl ?_
  refine lv_aload_n hx hb dL_law_337 rfl (lv_at hl 3 rfl) ?_
  refine lv_aload_n hx hb dL_law_338 rfl (lv_at hl 1 rfl) ?_
  refine lv_iload_n hx hb dL_law_339 rfl (lv_at hl 0 rfl) ?_
  refine lv_iconst (v := 1) hx hb dL_law_340 (by decide) ?_
  refine lv_iadd hx hb dL_law_341 ?_
  refine lw_sld (i + 1) hx hb hX hbl hS (nI_add i 1) (by omega) hL dL_law_342 ?_
  refine lw_callV (K := KR) (M := MR) (ci := 5) [.int (xs (i + 1))] [.int ρ] hx hb hml hown hts hUR hPR hS hAR hsR dL_law_343 ml_L_36 im_X6_gather (hTop MC MR hR).2.2.1 (hTop MC MR hR).2.2.2 rfl rfl (by decide) rfl rfl rfl rfl rfl (Nat.le_of_ble_eq_true rfl) hl.1 hk1 hk2 (fun r M' H' locs' hq hP' hkp hS => ?_)
  obtain ⟨rfl, hQR⟩ := hq
  have hPC := hPC.kept (H1 := H') (fun j hj => hkp _ ((hPC.1 j hj).lt) (fun z => hCR _ (hPC.2.1 j hj) z)) (fun h => by cases h)
  refine W.eq (g2 := F0 m 346 ls (.int ρ :: [.int ρ])) rfl ?_
  refine lv_icmp_eq (tgt := 1411) hx hb dL_law_346 (by decide) (fun _ => ?_) (fun z => absurd rfl z)
  exact kk _ _ _ _ ls hl ⟨hnx _ _ hQC hQR, hPC, hP', hS⟩
set_option maxRecDepth 100000 in
theorem law_copyOf {p : Program} {l : Launch} {e : Env} {s : State} {m : MethodId} {below : List Frame} {meth : Method} {c : Code} {b L : Nat} {xs : Nat → Int32} {KC KR : xK} {Rel : xM → xM → Prop} {Q : State → Prop} {cs ss : Nat} (hk1 : cs ≤ 600000) (hk2 : ss ≤ 7302250) (hC : lwX p s m meth c b L xs KC KR) (hTop : ∀ MC MR, Rel MC MR → mS MC 0 = (0, 4) ∧ 0 < mN MC ∧ mS MR 0 = (0, 5) ∧ 0 < mN MR) (hF : Fc_copyOf Rel) (i : Nat) (hi : i + 6 ≤ L) {MC MR : xM} {H : Heap} {locs : List Loc} (hst : lwS Rel s KC KR MC MR H locs) (ls : Array Slot) (hl : lv_has ls 4 [(3, .int (nI i)), (0, .ref b), (1, .ref (kB KC)), (2, .ref (kB KR))])
    (kk : ∀ (MC MR : xM) (H : Heap) (locs : List Loc) (ls : Array Slot), lv_has ls 4 [(3, .int (nI i)), (0, .ref b), (1, .ref (kB KC)), (2, .ref (kB KR))] → lwS Rel s KC KR MC MR H locs → W p l e room_1 s m #[Value.ref b] below meth c H locs cs ss Q (F0 m 1411 ls [])) : W p l e room_1 s m #[Value.ref b] below meth c H locs cs ss Q (F0 m 351 ls []) := by
  obtain ⟨hx, hb, hml, hown, hts, hX, hbl, hL, hUC, hUR, hAC, hAR, hCR⟩ := hC
  obtain ⟨hR, hPC, hPR, hS⟩ := hst
  refine lv_aload_n hx hb dL_law_351 rfl (lv_at hl 2 rfl) ?_
  refine lv_aload_n hx hb dL_law_352 rfl (lv_at hl 1 rfl) ?_
  refine lv_iload_n hx hb dL_law_353 rfl (lv_at hl 0 rfl) ?_
  refine lv_iconst (v := 1) hx hb dL_law_354 (by decide) ?_
  refine lv_iadd hx hb dL_law_355 ?_
  refine lw_sld (i + 1) hx hb hX hbl hS (nI_add i 1) (by omega) hL dL_law_356 ?_
  obtain ⟨ρ, QC, QR, hsC, hsR, hnx⟩ := hF (xs (i + 1)) MC MR hR
  refine lw_callV (K := KC) (M := MC) (ci := 4) [.int (xs (i + 1))] [] hx hb hml hown hts hUC hPC hS hAC hsC dL_law_357 ml_L_37 im_X5_copyOf (hTop MC MR hR).1 (hTop MC MR hR).2.1 rfl rfl (by decide) rfl rfl rfl rfl rfl (Nat.le_of_ble_eq_true rfl) hl.1 hk1 hk2 (fun r M' H' locs' hq hP' hkp hS => ?_)
  obtain ⟨rfl, hQC⟩ := hq
  have hPR := hPR.kept (H1 := H') (fun j hj => hkp _ ((hPR.1 j hj).lt) (fun z => hCR _ z (hPR.2.1 j hj))) (fun h => by cases h)
  have hPC := hP'
  refine W.eq (g2 := F0 m 360 ls (.int ρ :: [])) rfl ?_
  refine lv_aload_n hx hb dL_law_360 rfl (lv_at hl 3 rfl) ?_
  refine lv_aload_n hx hb dL_law_361 rfl (lv_at hl 1 rfl) ?_
  refine lv_iload_n hx hb dL_law_362 rfl (lv_at hl 0 rfl) ?_
  refine lv_iconst (v := 1) hx hb dL_law_363 (by decide) ?_
  refine lv_iadd hx hb dL_law_364 ?_
  refine lw_sld (i + 1) hx hb hX hbl hS (nI_add i 1) (by omega) hL dL_law_365 ?_
  refine lw_callV (K := KR) (M := MR) (ci := 5) [.int (xs (i + 1))] [.int ρ] hx hb hml hown hts hUR hPR hS hAR hsR dL_law_366 ml_L_40 im_X6_copyOf (hTop MC MR hR).2.2.1 (hTop MC MR hR).2.2.2 rfl rfl (by decide) rfl rfl rfl rfl rfl (Nat.le_of_ble_eq_true rfl) hl.1 hk1 hk2 (fun r M' H' locs' hq hP' hkp hS => ?_)
  obtain ⟨rfl, hQR⟩ := hq
  have hPC := hPC.kept (H1 := H') (fun j hj => hkp _ ((hPC.1 j hj).lt) (fun z => hCR _ (hPC.2.1 j hj) z)) (fun h => by cases h)
  refine W.eq (g2 := F0 m 369 ls (.int ρ :: [.int ρ])) rfl ?_
  refine lv_icmp_eq (tgt := 1411) hx hb dL_law_369 (by decide) (fun _ => ?_) (fun z => absurd rfl z)
  exact kk _ _ _ _ ls hl ⟨hnx _ _ hQC hQR, hPC, hP', hS⟩
set_option maxRecDepth 100000 in
theorem law_get {p : Program} {l : Launch} {e : Env} {s : State} {m : MethodId} {below : List Frame} {meth : Method} {c : Code} {b L : Nat} {xs : Nat → Int32} {KC KR : xK} {Rel : xM → xM → Prop} {Q : State → Prop} {cs ss : Nat} (hk1 : cs ≤ 600000) (hk2 : ss ≤ 7302250) (hC : lwX p s m meth c b L xs KC KR) (hTop : ∀ MC MR, Rel MC MR → mS MC 0 = (0, 4) ∧ 0 < mN MC ∧ mS MR 0 = (0, 5) ∧ 0 < mN MR) (hF : Fc_get Rel) (i : Nat) (hi : i + 6 ≤ L) {MC MR : xM} {H : Heap} {locs : List Loc} (hst : lwS Rel s KC KR MC MR H locs) (ls : Array Slot) (hl : lv_has ls 4 [(3, .int (nI i)), (0, .ref b), (1, .ref (kB KC)), (2, .ref (kB KR))])
    (kk : ∀ (MC MR : xM) (H : Heap) (locs : List Loc) (ls : Array Slot), lv_has ls 4 [(3, .int (nI i)), (0, .ref b), (1, .ref (kB KC)), (2, .ref (kB KR))] → lwS Rel s KC KR MC MR H locs → W p l e room_1 s m #[Value.ref b] below meth c H locs cs ss Q (F0 m 1411 ls [])) : W p l e room_1 s m #[Value.ref b] below meth c H locs cs ss Q (F0 m 374 ls []) := by
  obtain ⟨hx, hb, hml, hown, hts, hX, hbl, hL, hUC, hUR, hAC, hAR, hCR⟩ := hC
  obtain ⟨hR, hPC, hPR, hS⟩ := hst
  refine lv_aload_n hx hb dL_law_374 rfl (lv_at hl 2 rfl) ?_
  refine lv_aload_n hx hb dL_law_375 rfl (lv_at hl 1 rfl) ?_
  refine lv_iload_n hx hb dL_law_376 rfl (lv_at hl 0 rfl) ?_
  refine lv_iconst (v := 1) hx hb dL_law_377 (by decide) ?_
  refine lv_iadd hx hb dL_law_378 ?_
  refine lw_sld (i + 1) hx hb hX hbl hS (nI_add i 1) (by omega) hL dL_law_379 ?_
  refine lv_aload_n hx hb dL_law_380 rfl (lv_at hl 1 rfl) ?_
  refine lv_iload_n hx hb dL_law_381 rfl (lv_at hl 0 rfl) ?_
  refine lv_iconst (v := 2) hx hb dL_law_382 (by decide) ?_
  refine lv_iadd hx hb dL_law_383 ?_
  refine lw_sld (i + 2) hx hb hX hbl hS (nI_add i 2) (by omega) hL dL_law_384 ?_
  refine lv_aload_n hx hb dL_law_385 rfl (lv_at hl 1 rfl) ?_
  refine lv_iload_n hx hb dL_law_386 rfl (lv_at hl 0 rfl) ?_
  refine lv_iconst (v := 3) hx hb dL_law_387 (by decide) ?_
  refine lv_iadd hx hb dL_law_388 ?_
  refine lw_sld (i + 3) hx hb hX hbl hS (nI_add i 3) (by omega) hL dL_law_389 ?_
  obtain ⟨ρ, QC, QR, hsC, hsR, hnx⟩ := hF (xs (i + 1)) (xs (i + 2)) (xs (i + 3)) MC MR hR
  refine lw_callV (K := KC) (M := MC) (ci := 4) [.int (xs (i + 1)), .int (xs (i + 2)), .int (xs (i + 3))] [] hx hb hml hown hts hUC hPC hS hAC hsC dL_law_390 ml_L_41 im_X5_get (hTop MC MR hR).1 (hTop MC MR hR).2.1 rfl rfl (by decide) rfl rfl rfl rfl rfl (Nat.le_of_ble_eq_true rfl) hl.1 hk1 hk2 (fun r M' H' locs' hq hP' hkp hS => ?_)
  obtain ⟨rfl, hQC⟩ := hq
  have hPR := hPR.kept (H1 := H') (fun j hj => hkp _ ((hPR.1 j hj).lt) (fun z => hCR _ z (hPR.2.1 j hj))) (fun h => by cases h)
  have hPC := hP'
  refine W.eq (g2 := F0 m 393 ls (.long ρ :: [])) rfl ?_
  refine lv_aload_n hx hb dL_law_393 rfl (lv_at hl 3 rfl) ?_
  refine lv_aload_n hx hb dL_law_394 rfl (lv_at hl 1 rfl) ?_
  refine lv_iload_n hx hb dL_law_395 rfl (lv_at hl 0 rfl) ?_
  refine lv_iconst (v := 1) hx hb dL_law_396 (by decide) ?_
  refine lv_iadd hx hb dL_law_397 ?_
  refine lw_sld (i + 1) hx hb hX hbl hS (nI_add i 1) (by omega) hL dL_law_398 ?_
  refine lv_aload_n hx hb dL_law_399 rfl (lv_at hl 1 rfl) ?_
  refine lv_iload_n hx hb dL_law_400 rfl (lv_at hl 0 rfl) ?_
  refine lv_iconst (v := 2) hx hb dL_law_401 (by decide) ?_
  refine lv_iadd hx hb dL_law_402 ?_
  refine lw_sld (i + 2) hx hb hX hbl hS (nI_add i 2) (by omega) hL dL_law_403 ?_
  refine lv_aload_n hx hb dL_law_404 rfl (lv_at hl 1 rfl) ?_
  refine lv_iload_n hx hb dL_law_405 rfl (lv_at hl 0 rfl) ?_
  refine lv_iconst (v := 3) hx hb dL_law_406 (by decide) ?_
  refine lv_iadd hx hb dL_law_407 ?_
  refine lw_sld (i + 3) hx hb hX hbl hS (nI_add i 3) (by omega) hL dL_law_408 ?_
  refine lw_callV (K := KR) (M := MR) (ci := 5) [.int (xs (i + 1)), .int (xs (i + 2)), .int (xs (i + 3))] [.long ρ] hx hb hml hown hts hUR hPR hS hAR hsR dL_law_409 ml_L_45 im_X6_get (hTop MC MR hR).2.2.1 (hTop MC MR hR).2.2.2 rfl rfl (by decide) rfl rfl rfl rfl rfl (Nat.le_of_ble_eq_true rfl) hl.1 hk1 hk2 (fun r M' H' locs' hq hP' hkp hS => ?_)
  obtain ⟨rfl, hQR⟩ := hq
  have hPC := hPC.kept (H1 := H') (fun j hj => hkp _ ((hPC.1 j hj).lt) (fun z => hCR _ (hPC.2.1 j hj) z)) (fun h => by cases h)
  refine W.eq (g2 := F0 m 412 ls (.long ρ :: [.long ρ])) rfl ?_
  refine W.lcmp hx hb dL_law_412 ?_
  refine lv_if_eq (tgt := 1411) hx hb dL_law_413 (by decide) (fun _ => ?_) (fun z => absurd ((lg_cmp_eq ρ ρ).mpr rfl) z)
  exact kk _ _ _ _ ls hl ⟨hnx _ _ hQC hQR, hPC, hP', hS⟩
set_option maxRecDepth 100000 in
theorem law_set {p : Program} {l : Launch} {e : Env} {s : State} {m : MethodId} {below : List Frame} {meth : Method} {c : Code} {b L : Nat} {xs : Nat → Int32} {KC KR : xK} {Rel : xM → xM → Prop} {Q : State → Prop} {cs ss : Nat} (hk1 : cs ≤ 600000) (hk2 : ss ≤ 7302250) (hC : lwX p s m meth c b L xs KC KR) (hTop : ∀ MC MR, Rel MC MR → mS MC 0 = (0, 4) ∧ 0 < mN MC ∧ mS MR 0 = (0, 5) ∧ 0 < mN MR) (hF : Fc_set Rel) (i : Nat) (hi : i + 6 ≤ L) {MC MR : xM} {H : Heap} {locs : List Loc} (hst : lwS Rel s KC KR MC MR H locs) (ls : Array Slot) (hl : lv_has ls 4 [(3, .int (nI i)), (0, .ref b), (1, .ref (kB KC)), (2, .ref (kB KR))])
    (kk : ∀ (MC MR : xM) (H : Heap) (locs : List Loc) (ls : Array Slot), lv_has ls 4 [(3, .int (nI i)), (0, .ref b), (1, .ref (kB KC)), (2, .ref (kB KR))] → lwS Rel s KC KR MC MR H locs → W p l e room_1 s m #[Value.ref b] below meth c H locs cs ss Q (F0 m 1411 ls [])) : W p l e room_1 s m #[Value.ref b] below meth c H locs cs ss Q (F0 m 418 ls []) := by
  obtain ⟨hx, hb, hml, hown, hts, hX, hbl, hL, hUC, hUR, hAC, hAR, hCR⟩ := hC
  obtain ⟨hR, hPC, hPR, hS⟩ := hst
  refine lv_aload_n hx hb dL_law_418 rfl (lv_at hl 2 rfl) ?_
  refine lv_aload_n hx hb dL_law_419 rfl (lv_at hl 1 rfl) ?_
  refine lv_iload_n hx hb dL_law_420 rfl (lv_at hl 0 rfl) ?_
  refine lv_iconst (v := 1) hx hb dL_law_421 (by decide) ?_
  refine lv_iadd hx hb dL_law_422 ?_
  refine lw_sld (i + 1) hx hb hX hbl hS (nI_add i 1) (by omega) hL dL_law_423 ?_
  refine lv_aload_n hx hb dL_law_424 rfl (lv_at hl 1 rfl) ?_
  refine lv_iload_n hx hb dL_law_425 rfl (lv_at hl 0 rfl) ?_
  refine lv_iconst (v := 2) hx hb dL_law_426 (by decide) ?_
  refine lv_iadd hx hb dL_law_427 ?_
  refine lw_sld (i + 2) hx hb hX hbl hS (nI_add i 2) (by omega) hL dL_law_428 ?_
  refine lv_aload_n hx hb dL_law_429 rfl (lv_at hl 1 rfl) ?_
  refine lv_iload_n hx hb dL_law_430 rfl (lv_at hl 0 rfl) ?_
  refine lv_iconst (v := 3) hx hb dL_law_431 (by decide) ?_
  refine lv_iadd hx hb dL_law_432 ?_
  refine lw_sld (i + 3) hx hb hX hbl hS (nI_add i 3) (by omega) hL dL_law_433 ?_
  refine lv_aload_n hx hb dL_law_434 rfl (lv_at hl 1 rfl) ?_
  refine lv_iload_n hx hb dL_law_435 rfl (lv_at hl 0 rfl) ?_
  refine lv_iconst (v := 4) hx hb dL_law_436 (by decide) ?_
  refine lv_iadd hx hb dL_law_437 ?_
  refine lw_sld (i + 4) hx hb hX hbl hS (nI_add i 4) (by omega) hL dL_law_438 ?_
  refine lv_i2l hx hb dL_law_439 rfl ?_
  refine lv_bipush (v := 32) hx hb dL_law_440 (by decide) ?_
  refine lv_lshl hx hb dL_law_442 rfl ?_
  refine lv_aload_n hx hb dL_law_443 rfl (lv_at hl 1 rfl) ?_
  refine lv_iload_n hx hb dL_law_444 rfl (lv_at hl 0 rfl) ?_
  refine lv_iconst (v := 5) hx hb dL_law_445 (by decide) ?_
  refine lv_iadd hx hb dL_law_446 ?_
  refine lw_sld (i + 5) hx hb hX hbl hS (nI_add i 5) (by omega) hL dL_law_447 ?_
  refine lv_i2l hx hb dL_law_448 rfl ?_
  refine lv_ldc2 hx hb hown (hts _ kc_L_13) dL_law_449 ?_
  refine lv_land hx hb dL_law_452 ?_
  refine lv_lor hx hb dL_law_453 ?_
  obtain ⟨ρ, QC, QR, hsC, hsR, hnx⟩ := hF (xs (i + 1)) (xs (i + 2)) (xs (i + 3)) (((xs (i + 4)).toInt64 <<< ((Int32.toInt64 32) &&& 63)) ||| (((xs (i + 5)).toInt64) &&& (4294967295))) MC MR hR
  refine lw_callV (K := KC) (M := MC) (ci := 4) [.int (xs (i + 1)), .int (xs (i + 2)), .int (xs (i + 3)), .long (((xs (i + 4)).toInt64 <<< ((Int32.toInt64 32) &&& 63)) ||| (((xs (i + 5)).toInt64) &&& (4294967295)))] [] hx hb hml hown hts hUC hPC hS hAC hsC dL_law_454 ml_L_46 im_X5_set (hTop MC MR hR).1 (hTop MC MR hR).2.1 rfl rfl (by decide) rfl rfl rfl rfl rfl (Nat.le_of_ble_eq_true rfl) hl.1 hk1 hk2 (fun r M' H' locs' hq hP' hkp hS => ?_)
  obtain ⟨rfl, hQC⟩ := hq
  have hPR := hPR.kept (H1 := H') (fun j hj => hkp _ ((hPR.1 j hj).lt) (fun z => hCR _ z (hPR.2.1 j hj))) (fun h => by cases h)
  have hPC := hP'
  refine W.eq (g2 := F0 m 457 ls (.int ρ :: [])) rfl ?_
  refine lv_aload_n hx hb dL_law_457 rfl (lv_at hl 3 rfl) ?_
  refine lv_aload_n hx hb dL_law_458 rfl (lv_at hl 1 rfl) ?_
  refine lv_iload_n hx hb dL_law_459 rfl (lv_at hl 0 rfl) ?_
  refine lv_iconst (v := 1) hx hb dL_law_460 (by decide) ?_
  refine lv_iadd hx hb dL_law_461 ?_
  refine lw_sld (i + 1) hx hb hX hbl hS (nI_add i 1) (by omega) hL dL_law_462 ?_
  refine lv_aload_n hx hb dL_law_463 rfl (lv_at hl 1 rfl) ?_
  refine lv_iload_n hx hb dL_law_464 rfl (lv_at hl 0 rfl) ?_
  refine lv_iconst (v := 2) hx hb dL_law_465 (by decide) ?_
  refine lv_iadd hx hb dL_law_466 ?_
  refine lw_sld (i + 2) hx hb hX hbl hS (nI_add i 2) (by omega) hL dL_law_467 ?_
  refine lv_aload_n hx hb dL_law_468 rfl (lv_at hl 1 rfl) ?_
  refine lv_iload_n hx hb dL_law_469 rfl (lv_at hl 0 rfl) ?_
  refine lv_iconst (v := 3) hx hb dL_law_470 (by decide) ?_
  refine lv_iadd hx hb dL_law_471 ?_
  refine lw_sld (i + 3) hx hb hX hbl hS (nI_add i 3) (by omega) hL dL_law_472 ?_
  refine lv_aload_n hx hb dL_law_473 rfl (lv_at hl 1 rfl) ?_
  refine lv_iload_n hx hb dL_law_474 rfl (lv_at hl 0 rfl) ?_
  refine lv_iconst (v := 4) hx hb dL_law_475 (by decide) ?_
  refine lv_iadd hx hb dL_law_476 ?_
  refine lw_sld (i + 4) hx hb hX hbl hS (nI_add i 4) (by omega) hL dL_law_477 ?_
  refine lv_i2l hx hb dL_law_478 rfl ?_
  refine lv_bipush (v := 32) hx hb dL_law_479 (by decide) ?_
  refine lv_lshl hx hb dL_law_481 rfl ?_
  refine lv_aload_n hx hb dL_law_482 rfl (lv_at hl 1 rfl) ?_
  refine lv_iload_n hx hb dL_law_483 rfl (lv_at hl 0 rfl) ?_
  refine lv_iconst (v := 5) hx hb dL_law_484 (by decide) ?_
  refine lv_iadd hx hb dL_law_485 ?_
  refine lw_sld (i + 5) hx hb hX hbl hS (nI_add i 5) (by omega) hL dL_law_486 ?_
  refine lv_i2l hx hb dL_law_487 rfl ?_
  refine lv_ldc2 hx hb hown (hts _ kc_L_13) dL_law_488 ?_
  refine lv_land hx hb dL_law_491 ?_
  refine lv_lor hx hb dL_law_492 ?_
  refine lw_callV (K := KR) (M := MR) (ci := 5) [.int (xs (i + 1)), .int (xs (i + 2)), .int (xs (i + 3)), .long (((xs (i + 4)).toInt64 <<< ((Int32.toInt64 32) &&& 63)) ||| (((xs (i + 5)).toInt64) &&& (4294967295)))] [.int ρ] hx hb hml hown hts hUR hPR hS hAR hsR dL_law_493 ml_L_50 im_X6_set (hTop MC MR hR).2.2.1 (hTop MC MR hR).2.2.2 rfl rfl (by decide) rfl rfl rfl rfl rfl (Nat.le_of_ble_eq_true rfl) hl.1 hk1 hk2 (fun r M' H' locs' hq hP' hkp hS => ?_)
  obtain ⟨rfl, hQR⟩ := hq
  have hPC := hPC.kept (H1 := H') (fun j hj => hkp _ ((hPC.1 j hj).lt) (fun z => hCR _ (hPC.2.1 j hj) z)) (fun h => by cases h)
  refine W.eq (g2 := F0 m 496 ls (.int ρ :: [.int ρ])) rfl ?_
  refine lv_icmp_eq (tgt := 1411) hx hb dL_law_496 (by decide) (fun _ => ?_) (fun z => absurd rfl z)
  exact kk _ _ _ _ ls hl ⟨hnx _ _ hQC hQR, hPC, hP', hS⟩
set_option maxRecDepth 100000 in
theorem law_usable {p : Program} {l : Launch} {e : Env} {s : State} {m : MethodId} {below : List Frame} {meth : Method} {c : Code} {b L : Nat} {xs : Nat → Int32} {KC KR : xK} {Rel : xM → xM → Prop} {Q : State → Prop} {cs ss : Nat} (hk1 : cs ≤ 600000) (hk2 : ss ≤ 7302250) (hC : lwX p s m meth c b L xs KC KR) (hTop : ∀ MC MR, Rel MC MR → mS MC 0 = (0, 4) ∧ 0 < mN MC ∧ mS MR 0 = (0, 5) ∧ 0 < mN MR) (hF : Fc_usable Rel) (i : Nat) (hi : i + 6 ≤ L) {MC MR : xM} {H : Heap} {locs : List Loc} (hst : lwS Rel s KC KR MC MR H locs) (ls : Array Slot) (hl : lv_has ls 4 [(3, .int (nI i)), (0, .ref b), (1, .ref (kB KC)), (2, .ref (kB KR))])
    (kk : ∀ (MC MR : xM) (H : Heap) (locs : List Loc) (ls : Array Slot), lv_has ls 4 [(3, .int (nI i)), (0, .ref b), (1, .ref (kB KC)), (2, .ref (kB KR))] → lwS Rel s KC KR MC MR H locs → W p l e room_1 s m #[Value.ref b] below meth c H locs cs ss Q (F0 m 1411 ls [])) : W p l e room_1 s m #[Value.ref b] below meth c H locs cs ss Q (F0 m 501 ls []) := by
  obtain ⟨hx, hb, hml, hown, hts, hX, hbl, hL, hUC, hUR, hAC, hAR, hCR⟩ := hC
  obtain ⟨hR, hPC, hPR, hS⟩ := hst
  refine lv_aload_n hx hb dL_law_501 rfl (lv_at hl 2 rfl) ?_
  refine lv_aload_n hx hb dL_law_502 rfl (lv_at hl 1 rfl) ?_
  refine lv_iload_n hx hb dL_law_503 rfl (lv_at hl 0 rfl) ?_
  refine lv_iconst (v := 1) hx hb dL_law_504 (by decide) ?_
  refine lv_iadd hx hb dL_law_505 ?_
  refine lw_sld (i + 1) hx hb hX hbl hS (nI_add i 1) (by omega) hL dL_law_506 ?_
  refine lv_aload_n hx hb dL_law_507 rfl (lv_at hl 1 rfl) ?_
  refine lv_iload_n hx hb dL_law_508 rfl (lv_at hl 0 rfl) ?_
  refine lv_iconst (v := 2) hx hb dL_law_509 (by decide) ?_
  refine lv_iadd hx hb dL_law_510 ?_
  refine lw_sld (i + 2) hx hb hX hbl hS (nI_add i 2) (by omega) hL dL_law_511 ?_
  refine lv_aload_n hx hb dL_law_512 rfl (lv_at hl 1 rfl) ?_
  refine lv_iload_n hx hb dL_law_513 rfl (lv_at hl 0 rfl) ?_
  refine lv_iconst (v := 3) hx hb dL_law_514 (by decide) ?_
  refine lv_iadd hx hb dL_law_515 ?_
  refine lw_sld (i + 3) hx hb hX hbl hS (nI_add i 3) (by omega) hL dL_law_516 ?_
  obtain ⟨ρ, QC, QR, hsC, hsR, hnx⟩ := hF (xs (i + 1)) (xs (i + 2)) (xs (i + 3)) MC MR hR
  refine lw_callV (K := KC) (M := MC) (ci := 4) [.int (xs (i + 1)), .int (xs (i + 2)), .int (xs (i + 3))] [] hx hb hml hown hts hUC hPC hS hAC hsC dL_law_517 ml_L_51 im_X5_usable (hTop MC MR hR).1 (hTop MC MR hR).2.1 rfl rfl (by decide) rfl rfl rfl rfl rfl (Nat.le_of_ble_eq_true rfl) hl.1 hk1 hk2 (fun r M' H' locs' hq hP' hkp hS => ?_)
  obtain ⟨rfl, hQC⟩ := hq
  have hPR := hPR.kept (H1 := H') (fun j hj => hkp _ ((hPR.1 j hj).lt) (fun z => hCR _ z (hPR.2.1 j hj))) (fun h => by cases h)
  have hPC := hP'
  refine W.eq (g2 := F0 m 520 ls (.int ρ :: [])) rfl ?_
  refine lv_aload_n hx hb dL_law_520 rfl (lv_at hl 3 rfl) ?_
  refine lv_aload_n hx hb dL_law_521 rfl (lv_at hl 1 rfl) ?_
  refine lv_iload_n hx hb dL_law_522 rfl (lv_at hl 0 rfl) ?_
  refine lv_iconst (v := 1) hx hb dL_law_523 (by decide) ?_
  refine lv_iadd hx hb dL_law_524 ?_
  refine lw_sld (i + 1) hx hb hX hbl hS (nI_add i 1) (by omega) hL dL_law_525 ?_
  refine lv_aload_n hx hb dL_law_526 rfl (lv_at hl 1 rfl) ?_
  refine lv_iload_n hx hb dL_law_527 rfl (lv_at hl 0 rfl) ?_
  refine lv_iconst (v := 2) hx hb dL_law_528 (by decide) ?_
  refine lv_iadd hx hb dL_law_529 ?_
  refine lw_sld (i + 2) hx hb hX hbl hS (nI_add i 2) (by omega) hL dL_law_530 ?_
  refine lv_aload_n hx hb dL_law_531 rfl (lv_at hl 1 rfl) ?_
  refine lv_iload_n hx hb dL_law_532 rfl (lv_at hl 0 rfl) ?_
  refine lv_iconst (v := 3) hx hb dL_law_533 (by decide) ?_
  refine lv_iadd hx hb dL_law_534 ?_
  refine lw_sld (i + 3) hx hb hX hbl hS (nI_add i 3) (by omega) hL dL_law_535 ?_
  refine lw_callV (K := KR) (M := MR) (ci := 5) [.int (xs (i + 1)), .int (xs (i + 2)), .int (xs (i + 3))] [.int ρ] hx hb hml hown hts hUR hPR hS hAR hsR dL_law_536 ml_L_55 im_X6_usable (hTop MC MR hR).2.2.1 (hTop MC MR hR).2.2.2 rfl rfl (by decide) rfl rfl rfl rfl rfl (Nat.le_of_ble_eq_true rfl) hl.1 hk1 hk2 (fun r M' H' locs' hq hP' hkp hS => ?_)
  obtain ⟨rfl, hQR⟩ := hq
  have hPC := hPC.kept (H1 := H') (fun j hj => hkp _ ((hPC.1 j hj).lt) (fun z => hCR _ (hPC.2.1 j hj) z)) (fun h => by cases h)
  refine W.eq (g2 := F0 m 539 ls (.int ρ :: [.int ρ])) rfl ?_
  refine lv_icmp_eq (tgt := 1411) hx hb dL_law_539 (by decide) (fun _ => ?_) (fun z => absurd rfl z)
  exact kk _ _ _ _ ls hl ⟨hnx _ _ hQC hQR, hPC, hP', hS⟩
set_option maxRecDepth 100000 in
theorem law_look {p : Program} {l : Launch} {e : Env} {s : State} {m : MethodId} {below : List Frame} {meth : Method} {c : Code} {b L : Nat} {xs : Nat → Int32} {KC KR : xK} {Rel : xM → xM → Prop} {Q : State → Prop} {cs ss : Nat} (hk1 : cs ≤ 600000) (hk2 : ss ≤ 7302250) (hC : lwX p s m meth c b L xs KC KR) (hTop : ∀ MC MR, Rel MC MR → mS MC 0 = (0, 4) ∧ 0 < mN MC ∧ mS MR 0 = (0, 5) ∧ 0 < mN MR) (hF : Fc_look Rel) (i : Nat) (hi : i + 6 ≤ L) {MC MR : xM} {H : Heap} {locs : List Loc} (hst : lwS Rel s KC KR MC MR H locs) (ls : Array Slot) (hl : lv_has ls 4 [(3, .int (nI i)), (0, .ref b), (1, .ref (kB KC)), (2, .ref (kB KR))])
    (kk : ∀ (MC MR : xM) (H : Heap) (locs : List Loc) (ls : Array Slot), lv_has ls 4 [(3, .int (nI i)), (0, .ref b), (1, .ref (kB KC)), (2, .ref (kB KR))] → lwS Rel s KC KR MC MR H locs → W p l e room_1 s m #[Value.ref b] below meth c H locs cs ss Q (F0 m 1411 ls [])) : W p l e room_1 s m #[Value.ref b] below meth c H locs cs ss Q (F0 m 544 ls []) := by
  obtain ⟨hx, hb, hml, hown, hts, hX, hbl, hL, hUC, hUR, hAC, hAR, hCR⟩ := hC
  obtain ⟨hR, hPC, hPR, hS⟩ := hst
  refine lv_aload_n hx hb dL_law_544 rfl (lv_at hl 2 rfl) ?_
  refine lv_aload_n hx hb dL_law_545 rfl (lv_at hl 1 rfl) ?_
  refine lv_iload_n hx hb dL_law_546 rfl (lv_at hl 0 rfl) ?_
  refine lv_iconst (v := 1) hx hb dL_law_547 (by decide) ?_
  refine lv_iadd hx hb dL_law_548 ?_
  refine lw_sld (i + 1) hx hb hX hbl hS (nI_add i 1) (by omega) hL dL_law_549 ?_
  refine lv_aload_n hx hb dL_law_550 rfl (lv_at hl 1 rfl) ?_
  refine lv_iload_n hx hb dL_law_551 rfl (lv_at hl 0 rfl) ?_
  refine lv_iconst (v := 2) hx hb dL_law_552 (by decide) ?_
  refine lv_iadd hx hb dL_law_553 ?_
  refine lw_sld (i + 2) hx hb hX hbl hS (nI_add i 2) (by omega) hL dL_law_554 ?_
  refine lv_aload_n hx hb dL_law_555 rfl (lv_at hl 1 rfl) ?_
  refine lv_iload_n hx hb dL_law_556 rfl (lv_at hl 0 rfl) ?_
  refine lv_iconst (v := 3) hx hb dL_law_557 (by decide) ?_
  refine lv_iadd hx hb dL_law_558 ?_
  refine lw_sld (i + 3) hx hb hX hbl hS (nI_add i 3) (by omega) hL dL_law_559 ?_
  obtain ⟨ρ, QC, QR, hsC, hsR, hnx⟩ := hF (xs (i + 1)) (xs (i + 2)) (xs (i + 3)) MC MR hR
  refine lw_callV (K := KC) (M := MC) (ci := 4) [.int (xs (i + 1)), .int (xs (i + 2)), .int (xs (i + 3))] [] hx hb hml hown hts hUC hPC hS hAC hsC dL_law_560 ml_L_56 im_X5_look (hTop MC MR hR).1 (hTop MC MR hR).2.1 rfl rfl (by decide) rfl rfl rfl rfl rfl (Nat.le_of_ble_eq_true rfl) hl.1 hk1 hk2 (fun r M' H' locs' hq hP' hkp hS => ?_)
  obtain ⟨rfl, hQC⟩ := hq
  have hPR := hPR.kept (H1 := H') (fun j hj => hkp _ ((hPR.1 j hj).lt) (fun z => hCR _ z (hPR.2.1 j hj))) (fun h => by cases h)
  have hPC := hP'
  refine W.eq (g2 := F0 m 563 ls (.long ρ :: [])) rfl ?_
  refine lv_aload_n hx hb dL_law_563 rfl (lv_at hl 3 rfl) ?_
  refine lv_aload_n hx hb dL_law_564 rfl (lv_at hl 1 rfl) ?_
  refine lv_iload_n hx hb dL_law_565 rfl (lv_at hl 0 rfl) ?_
  refine lv_iconst (v := 1) hx hb dL_law_566 (by decide) ?_
  refine lv_iadd hx hb dL_law_567 ?_
  refine lw_sld (i + 1) hx hb hX hbl hS (nI_add i 1) (by omega) hL dL_law_568 ?_
  refine lv_aload_n hx hb dL_law_569 rfl (lv_at hl 1 rfl) ?_
  refine lv_iload_n hx hb dL_law_570 rfl (lv_at hl 0 rfl) ?_
  refine lv_iconst (v := 2) hx hb dL_law_571 (by decide) ?_
  refine lv_iadd hx hb dL_law_572 ?_
  refine lw_sld (i + 2) hx hb hX hbl hS (nI_add i 2) (by omega) hL dL_law_573 ?_
  refine lv_aload_n hx hb dL_law_574 rfl (lv_at hl 1 rfl) ?_
  refine lv_iload_n hx hb dL_law_575 rfl (lv_at hl 0 rfl) ?_
  refine lv_iconst (v := 3) hx hb dL_law_576 (by decide) ?_
  refine lv_iadd hx hb dL_law_577 ?_
  refine lw_sld (i + 3) hx hb hX hbl hS (nI_add i 3) (by omega) hL dL_law_578 ?_
  refine lw_callV (K := KR) (M := MR) (ci := 5) [.int (xs (i + 1)), .int (xs (i + 2)), .int (xs (i + 3))] [.long ρ] hx hb hml hown hts hUR hPR hS hAR hsR dL_law_579 ml_L_59 im_X6_look (hTop MC MR hR).2.2.1 (hTop MC MR hR).2.2.2 rfl rfl (by decide) rfl rfl rfl rfl rfl (Nat.le_of_ble_eq_true rfl) hl.1 hk1 hk2 (fun r M' H' locs' hq hP' hkp hS => ?_)
  obtain ⟨rfl, hQR⟩ := hq
  have hPC := hPC.kept (H1 := H') (fun j hj => hkp _ ((hPC.1 j hj).lt) (fun z => hCR _ (hPC.2.1 j hj) z)) (fun h => by cases h)
  refine W.eq (g2 := F0 m 582 ls (.long ρ :: [.long ρ])) rfl ?_
  refine W.lcmp hx hb dL_law_582 ?_
  refine lv_if_eq (tgt := 1411) hx hb dL_law_583 (by decide) (fun _ => ?_) (fun z => absurd ((lg_cmp_eq ρ ρ).mpr rfl) z)
  exact kk _ _ _ _ ls hl ⟨hnx _ _ hQC hQR, hPC, hP', hS⟩
set_option maxRecDepth 100000 in
theorem law_put {p : Program} {l : Launch} {e : Env} {s : State} {m : MethodId} {below : List Frame} {meth : Method} {c : Code} {b L : Nat} {xs : Nat → Int32} {KC KR : xK} {Rel : xM → xM → Prop} {Q : State → Prop} {cs ss : Nat} (hk1 : cs ≤ 600000) (hk2 : ss ≤ 7302250) (hC : lwX p s m meth c b L xs KC KR) (hTop : ∀ MC MR, Rel MC MR → mS MC 0 = (0, 4) ∧ 0 < mN MC ∧ mS MR 0 = (0, 5) ∧ 0 < mN MR) (hF : Fc_put Rel) (i : Nat) (hi : i + 6 ≤ L) {MC MR : xM} {H : Heap} {locs : List Loc} (hst : lwS Rel s KC KR MC MR H locs) (ls : Array Slot) (hl : lv_has ls 4 [(3, .int (nI i)), (0, .ref b), (1, .ref (kB KC)), (2, .ref (kB KR))])
    (kk : ∀ (MC MR : xM) (H : Heap) (locs : List Loc) (ls : Array Slot), lv_has ls 4 [(3, .int (nI i)), (0, .ref b), (1, .ref (kB KC)), (2, .ref (kB KR))] → lwS Rel s KC KR MC MR H locs → W p l e room_1 s m #[Value.ref b] below meth c H locs cs ss Q (F0 m 1411 ls [])) : W p l e room_1 s m #[Value.ref b] below meth c H locs cs ss Q (F0 m 588 ls []) := by
  obtain ⟨hx, hb, hml, hown, hts, hX, hbl, hL, hUC, hUR, hAC, hAR, hCR⟩ := hC
  obtain ⟨hR, hPC, hPR, hS⟩ := hst
  refine lv_aload_n hx hb dL_law_588 rfl (lv_at hl 2 rfl) ?_
  refine lv_aload_n hx hb dL_law_589 rfl (lv_at hl 1 rfl) ?_
  refine lv_iload_n hx hb dL_law_590 rfl (lv_at hl 0 rfl) ?_
  refine lv_iconst (v := 1) hx hb dL_law_591 (by decide) ?_
  refine lv_iadd hx hb dL_law_592 ?_
  refine lw_sld (i + 1) hx hb hX hbl hS (nI_add i 1) (by omega) hL dL_law_593 ?_
  refine lv_aload_n hx hb dL_law_594 rfl (lv_at hl 1 rfl) ?_
  refine lv_iload_n hx hb dL_law_595 rfl (lv_at hl 0 rfl) ?_
  refine lv_iconst (v := 2) hx hb dL_law_596 (by decide) ?_
  refine lv_iadd hx hb dL_law_597 ?_
  refine lw_sld (i + 2) hx hb hX hbl hS (nI_add i 2) (by omega) hL dL_law_598 ?_
  refine lv_aload_n hx hb dL_law_599 rfl (lv_at hl 1 rfl) ?_
  refine lv_iload_n hx hb dL_law_600 rfl (lv_at hl 0 rfl) ?_
  refine lv_iconst (v := 3) hx hb dL_law_601 (by decide) ?_
  refine lv_iadd hx hb dL_law_602 ?_
  refine lw_sld (i + 3) hx hb hX hbl hS (nI_add i 3) (by omega) hL dL_law_603 ?_
  refine lv_aload_n hx hb dL_law_604 rfl (lv_at hl 1 rfl) ?_
  refine lv_iload_n hx hb dL_law_605 rfl (lv_at hl 0 rfl) ?_
  refine lv_iconst (v := 4) hx hb dL_law_606 (by decide) ?_
  refine lv_iadd hx hb dL_law_607 ?_
  refine lw_sld (i + 4) hx hb hX hbl hS (nI_add i 4) (by omega) hL dL_law_608 ?_
  refine lv_i2l hx hb dL_law_609 rfl ?_
  refine lv_bipush (v := 32) hx hb dL_law_610 (by decide) ?_
  refine lv_lshl hx hb dL_law_612 rfl ?_
  refine lv_aload_n hx hb dL_law_613 rfl (lv_at hl 1 rfl) ?_
  refine lv_iload_n hx hb dL_law_614 rfl (lv_at hl 0 rfl) ?_
  refine lv_iconst (v := 5) hx hb dL_law_615 (by decide) ?_
  refine lv_iadd hx hb dL_law_616 ?_
  refine lw_sld (i + 5) hx hb hX hbl hS (nI_add i 5) (by omega) hL dL_law_617 ?_
  refine lv_i2l hx hb dL_law_618 rfl ?_
  refine lv_ldc2 hx hb hown (hts _ kc_L_13) dL_law_619 ?_
  refine lv_land hx hb dL_law_622 ?_
  refine lv_lor hx hb dL_law_623 ?_
  obtain ⟨ρ, QC, QR, hsC, hsR, hnx⟩ := hF (xs (i + 1)) (xs (i + 2)) (xs (i + 3)) (((xs (i + 4)).toInt64 <<< ((Int32.toInt64 32) &&& 63)) ||| (((xs (i + 5)).toInt64) &&& (4294967295))) MC MR hR
  refine lw_callV (K := KC) (M := MC) (ci := 4) [.int (xs (i + 1)), .int (xs (i + 2)), .int (xs (i + 3)), .long (((xs (i + 4)).toInt64 <<< ((Int32.toInt64 32) &&& 63)) ||| (((xs (i + 5)).toInt64) &&& (4294967295)))] [] hx hb hml hown hts hUC hPC hS hAC hsC dL_law_624 ml_L_60 im_X5_put (hTop MC MR hR).1 (hTop MC MR hR).2.1 rfl rfl (by decide) rfl rfl rfl rfl rfl (Nat.le_of_ble_eq_true rfl) hl.1 hk1 hk2 (fun r M' H' locs' hq hP' hkp hS => ?_)
  obtain ⟨rfl, hQC⟩ := hq
  have hPR := hPR.kept (H1 := H') (fun j hj => hkp _ ((hPR.1 j hj).lt) (fun z => hCR _ z (hPR.2.1 j hj))) (fun h => by cases h)
  have hPC := hP'
  refine W.eq (g2 := F0 m 627 ls (.int ρ :: [])) rfl ?_
  refine lv_aload_n hx hb dL_law_627 rfl (lv_at hl 3 rfl) ?_
  refine lv_aload_n hx hb dL_law_628 rfl (lv_at hl 1 rfl) ?_
  refine lv_iload_n hx hb dL_law_629 rfl (lv_at hl 0 rfl) ?_
  refine lv_iconst (v := 1) hx hb dL_law_630 (by decide) ?_
  refine lv_iadd hx hb dL_law_631 ?_
  refine lw_sld (i + 1) hx hb hX hbl hS (nI_add i 1) (by omega) hL dL_law_632 ?_
  refine lv_aload_n hx hb dL_law_633 rfl (lv_at hl 1 rfl) ?_
  refine lv_iload_n hx hb dL_law_634 rfl (lv_at hl 0 rfl) ?_
  refine lv_iconst (v := 2) hx hb dL_law_635 (by decide) ?_
  refine lv_iadd hx hb dL_law_636 ?_
  refine lw_sld (i + 2) hx hb hX hbl hS (nI_add i 2) (by omega) hL dL_law_637 ?_
  refine lv_aload_n hx hb dL_law_638 rfl (lv_at hl 1 rfl) ?_
  refine lv_iload_n hx hb dL_law_639 rfl (lv_at hl 0 rfl) ?_
  refine lv_iconst (v := 3) hx hb dL_law_640 (by decide) ?_
  refine lv_iadd hx hb dL_law_641 ?_
  refine lw_sld (i + 3) hx hb hX hbl hS (nI_add i 3) (by omega) hL dL_law_642 ?_
  refine lv_aload_n hx hb dL_law_643 rfl (lv_at hl 1 rfl) ?_
  refine lv_iload_n hx hb dL_law_644 rfl (lv_at hl 0 rfl) ?_
  refine lv_iconst (v := 4) hx hb dL_law_645 (by decide) ?_
  refine lv_iadd hx hb dL_law_646 ?_
  refine lw_sld (i + 4) hx hb hX hbl hS (nI_add i 4) (by omega) hL dL_law_647 ?_
  refine lv_i2l hx hb dL_law_648 rfl ?_
  refine lv_bipush (v := 32) hx hb dL_law_649 (by decide) ?_
  refine lv_lshl hx hb dL_law_651 rfl ?_
  refine lv_aload_n hx hb dL_law_652 rfl (lv_at hl 1 rfl) ?_
  refine lv_iload_n hx hb dL_law_653 rfl (lv_at hl 0 rfl) ?_
  refine lv_iconst (v := 5) hx hb dL_law_654 (by decide) ?_
  refine lv_iadd hx hb dL_law_655 ?_
  refine lw_sld (i + 5) hx hb hX hbl hS (nI_add i 5) (by omega) hL dL_law_656 ?_
  refine lv_i2l hx hb dL_law_657 rfl ?_
  refine lv_ldc2 hx hb hown (hts _ kc_L_13) dL_law_658 ?_
  refine lv_land hx hb dL_law_661 ?_
  refine lv_lor hx hb dL_law_662 ?_
  refine lw_callV (K := KR) (M := MR) (ci := 5) [.int (xs (i + 1)), .int (xs (i + 2)), .int (xs (i + 3)), .long (((xs (i + 4)).toInt64 <<< ((Int32.toInt64 32) &&& 63)) ||| (((xs (i + 5)).toInt64) &&& (4294967295)))] [.int ρ] hx hb hml hown hts hUR hPR hS hAR hsR dL_law_663 ml_L_63 im_X6_put (hTop MC MR hR).2.2.1 (hTop MC MR hR).2.2.2 rfl rfl (by decide) rfl rfl rfl rfl rfl (Nat.le_of_ble_eq_true rfl) hl.1 hk1 hk2 (fun r M' H' locs' hq hP' hkp hS => ?_)
  obtain ⟨rfl, hQR⟩ := hq
  have hPC := hPC.kept (H1 := H') (fun j hj => hkp _ ((hPC.1 j hj).lt) (fun z => hCR _ (hPC.2.1 j hj) z)) (fun h => by cases h)
  refine W.eq (g2 := F0 m 666 ls (.int ρ :: [.int ρ])) rfl ?_
  refine lv_icmp_eq (tgt := 1411) hx hb dL_law_666 (by decide) (fun _ => ?_) (fun z => absurd rfl z)
  exact kk _ _ _ _ ls hl ⟨hnx _ _ hQC hQR, hPC, hP', hS⟩
set_option maxRecDepth 100000 in
theorem law_swap {p : Program} {l : Launch} {e : Env} {s : State} {m : MethodId} {below : List Frame} {meth : Method} {c : Code} {b L : Nat} {xs : Nat → Int32} {KC KR : xK} {Rel : xM → xM → Prop} {Q : State → Prop} {cs ss : Nat} (hk1 : cs ≤ 600000) (hk2 : ss ≤ 7302250) (hC : lwX p s m meth c b L xs KC KR) (hTop : ∀ MC MR, Rel MC MR → mS MC 0 = (0, 4) ∧ 0 < mN MC ∧ mS MR 0 = (0, 5) ∧ 0 < mN MR) (hF : Fc_swap Rel) (i : Nat) (hi : i + 6 ≤ L) {MC MR : xM} {H : Heap} {locs : List Loc} (hst : lwS Rel s KC KR MC MR H locs) (ls : Array Slot) (hl : lv_has ls 4 [(3, .int (nI i)), (0, .ref b), (1, .ref (kB KC)), (2, .ref (kB KR))])
    (kk : ∀ (MC MR : xM) (H : Heap) (locs : List Loc) (ls : Array Slot), lv_has ls 4 [(3, .int (nI i)), (0, .ref b), (1, .ref (kB KC)), (2, .ref (kB KR))] → lwS Rel s KC KR MC MR H locs → W p l e room_1 s m #[Value.ref b] below meth c H locs cs ss Q (F0 m 1411 ls [])) : W p l e room_1 s m #[Value.ref b] below meth c H locs cs ss Q (F0 m 671 ls []) := by
  obtain ⟨hx, hb, hml, hown, hts, hX, hbl, hL, hUC, hUR, hAC, hAR, hCR⟩ := hC
  obtain ⟨hR, hPC, hPR, hS⟩ := hst
  refine lv_aload_n hx hb dL_law_671 rfl (lv_at hl 2 rfl) ?_
  refine lv_aload_n hx hb dL_law_672 rfl (lv_at hl 1 rfl) ?_
  refine lv_iload_n hx hb dL_law_673 rfl (lv_at hl 0 rfl) ?_
  refine lv_iconst (v := 1) hx hb dL_law_674 (by decide) ?_
  refine lv_iadd hx hb dL_law_675 ?_
  refine lw_sld (i + 1) hx hb hX hbl hS (nI_add i 1) (by omega) hL dL_law_676 ?_
  refine lv_aload_n hx hb dL_law_677 rfl (lv_at hl 1 rfl) ?_
  refine lv_iload_n hx hb dL_law_678 rfl (lv_at hl 0 rfl) ?_
  refine lv_iconst (v := 2) hx hb dL_law_679 (by decide) ?_
  refine lv_iadd hx hb dL_law_680 ?_
  refine lw_sld (i + 2) hx hb hX hbl hS (nI_add i 2) (by omega) hL dL_law_681 ?_
  refine lv_aload_n hx hb dL_law_682 rfl (lv_at hl 1 rfl) ?_
  refine lv_iload_n hx hb dL_law_683 rfl (lv_at hl 0 rfl) ?_
  refine lv_iconst (v := 3) hx hb dL_law_684 (by decide) ?_
  refine lv_iadd hx hb dL_law_685 ?_
  refine lw_sld (i + 3) hx hb hX hbl hS (nI_add i 3) (by omega) hL dL_law_686 ?_
  obtain ⟨ρ, QC, QR, hsC, hsR, hnx⟩ := hF (xs (i + 1)) (xs (i + 2)) (xs (i + 3)) MC MR hR
  refine lw_callV (K := KC) (M := MC) (ci := 4) [.int (xs (i + 1)), .int (xs (i + 2)), .int (xs (i + 3))] [] hx hb hml hown hts hUC hPC hS hAC hsC dL_law_687 ml_L_64 im_X5_swap (hTop MC MR hR).1 (hTop MC MR hR).2.1 rfl rfl (by decide) rfl rfl rfl rfl rfl (Nat.le_of_ble_eq_true rfl) hl.1 hk1 hk2 (fun r M' H' locs' hq hP' hkp hS => ?_)
  obtain ⟨rfl, hQC⟩ := hq
  have hPR := hPR.kept (H1 := H') (fun j hj => hkp _ ((hPR.1 j hj).lt) (fun z => hCR _ z (hPR.2.1 j hj))) (fun h => by cases h)
  have hPC := hP'
  refine W.eq (g2 := F0 m 690 ls (.int ρ :: [])) rfl ?_
  refine lv_aload_n hx hb dL_law_690 rfl (lv_at hl 3 rfl) ?_
  refine lv_aload_n hx hb dL_law_691 rfl (lv_at hl 1 rfl) ?_
  refine lv_iload_n hx hb dL_law_692 rfl (lv_at hl 0 rfl) ?_
  refine lv_iconst (v := 1) hx hb dL_law_693 (by decide) ?_
  refine lv_iadd hx hb dL_law_694 ?_
  refine lw_sld (i + 1) hx hb hX hbl hS (nI_add i 1) (by omega) hL dL_law_695 ?_
  refine lv_aload_n hx hb dL_law_696 rfl (lv_at hl 1 rfl) ?_
  refine lv_iload_n hx hb dL_law_697 rfl (lv_at hl 0 rfl) ?_
  refine lv_iconst (v := 2) hx hb dL_law_698 (by decide) ?_
  refine lv_iadd hx hb dL_law_699 ?_
  refine lw_sld (i + 2) hx hb hX hbl hS (nI_add i 2) (by omega) hL dL_law_700 ?_
  refine lv_aload_n hx hb dL_law_701 rfl (lv_at hl 1 rfl) ?_
  refine lv_iload_n hx hb dL_law_702 rfl (lv_at hl 0 rfl) ?_
  refine lv_iconst (v := 3) hx hb dL_law_703 (by decide) ?_
  refine lv_iadd hx hb dL_law_704 ?_
  refine lw_sld (i + 3) hx hb hX hbl hS (nI_add i 3) (by omega) hL dL_law_705 ?_
  refine lw_callV (K := KR) (M := MR) (ci := 5) [.int (xs (i + 1)), .int (xs (i + 2)), .int (xs (i + 3))] [.int ρ] hx hb hml hown hts hUR hPR hS hAR hsR dL_law_706 ml_L_67 im_X6_swap (hTop MC MR hR).2.2.1 (hTop MC MR hR).2.2.2 rfl rfl (by decide) rfl rfl rfl rfl rfl (Nat.le_of_ble_eq_true rfl) hl.1 hk1 hk2 (fun r M' H' locs' hq hP' hkp hS => ?_)
  obtain ⟨rfl, hQR⟩ := hq
  have hPC := hPC.kept (H1 := H') (fun j hj => hkp _ ((hPC.1 j hj).lt) (fun z => hCR _ (hPC.2.1 j hj) z)) (fun h => by cases h)
  refine W.eq (g2 := F0 m 709 ls (.int ρ :: [.int ρ])) rfl ?_
  refine lv_icmp_eq (tgt := 1411) hx hb dL_law_709 (by decide) (fun _ => ?_) (fun z => absurd rfl z)
  exact kk _ _ _ _ ls hl ⟨hnx _ _ hQC hQR, hPC, hP', hS⟩
set_option maxRecDepth 100000 in
theorem law_went {p : Program} {l : Launch} {e : Env} {s : State} {m : MethodId} {below : List Frame} {meth : Method} {c : Code} {b L : Nat} {xs : Nat → Int32} {KC KR : xK} {Rel : xM → xM → Prop} {Q : State → Prop} {cs ss : Nat} (hk1 : cs ≤ 600000) (hk2 : ss ≤ 7302250) (hC : lwX p s m meth c b L xs KC KR) (hTop : ∀ MC MR, Rel MC MR → mS MC 0 = (0, 4) ∧ 0 < mN MC ∧ mS MR 0 = (0, 5) ∧ 0 < mN MR) (hF : Fc_went Rel) (i : Nat) (hi : i + 6 ≤ L) {MC MR : xM} {H : Heap} {locs : List Loc} (hst : lwS Rel s KC KR MC MR H locs) (ls : Array Slot) (hl : lv_has ls 4 [(3, .int (nI i)), (0, .ref b), (1, .ref (kB KC)), (2, .ref (kB KR))])
    (kk : ∀ (MC MR : xM) (H : Heap) (locs : List Loc) (ls : Array Slot), lv_has ls 4 [(3, .int (nI i)), (0, .ref b), (1, .ref (kB KC)), (2, .ref (kB KR))] → lwS Rel s KC KR MC MR H locs → W p l e room_1 s m #[Value.ref b] below meth c H locs cs ss Q (F0 m 1411 ls [])) : W p l e room_1 s m #[Value.ref b] below meth c H locs cs ss Q (F0 m 714 ls []) := by
  obtain ⟨hx, hb, hml, hown, hts, hX, hbl, hL, hUC, hUR, hAC, hAR, hCR⟩ := hC
  obtain ⟨hR, hPC, hPR, hS⟩ := hst
  refine lv_aload_n hx hb dL_law_714 rfl (lv_at hl 2 rfl) ?_
  refine lv_aload_n hx hb dL_law_715 rfl (lv_at hl 1 rfl) ?_
  refine lv_iload_n hx hb dL_law_716 rfl (lv_at hl 0 rfl) ?_
  refine lv_iconst (v := 1) hx hb dL_law_717 (by decide) ?_
  refine lv_iadd hx hb dL_law_718 ?_
  refine lw_sld (i + 1) hx hb hX hbl hS (nI_add i 1) (by omega) hL dL_law_719 ?_
  obtain ⟨ρ, QC, QR, hsC, hsR, hnx⟩ := hF (xs (i + 1)) MC MR hR
  refine lw_callV (K := KC) (M := MC) (ci := 4) [.int (xs (i + 1))] [] hx hb hml hown hts hUC hPC hS hAC hsC dL_law_720 ml_L_68 im_X5_went (hTop MC MR hR).1 (hTop MC MR hR).2.1 rfl rfl (by decide) rfl rfl rfl rfl rfl (Nat.le_of_ble_eq_true rfl) hl.1 hk1 hk2 (fun r M' H' locs' hq hP' hkp hS => ?_)
  obtain ⟨rfl, hQC⟩ := hq
  have hPR := hPR.kept (H1 := H') (fun j hj => hkp _ ((hPR.1 j hj).lt) (fun z => hCR _ z (hPR.2.1 j hj))) (fun h => by cases h)
  have hPC := hP'
  refine W.eq (g2 := F0 m 723 ls (.int ρ :: [])) rfl ?_
  refine lv_aload_n hx hb dL_law_723 rfl (lv_at hl 3 rfl) ?_
  refine lv_aload_n hx hb dL_law_724 rfl (lv_at hl 1 rfl) ?_
  refine lv_iload_n hx hb dL_law_725 rfl (lv_at hl 0 rfl) ?_
  refine lv_iconst (v := 1) hx hb dL_law_726 (by decide) ?_
  refine lv_iadd hx hb dL_law_727 ?_
  refine lw_sld (i + 1) hx hb hX hbl hS (nI_add i 1) (by omega) hL dL_law_728 ?_
  refine lw_callV (K := KR) (M := MR) (ci := 5) [.int (xs (i + 1))] [.int ρ] hx hb hml hown hts hUR hPR hS hAR hsR dL_law_729 ml_L_71 im_X6_went (hTop MC MR hR).2.2.1 (hTop MC MR hR).2.2.2 rfl rfl (by decide) rfl rfl rfl rfl rfl (Nat.le_of_ble_eq_true rfl) hl.1 hk1 hk2 (fun r M' H' locs' hq hP' hkp hS => ?_)
  obtain ⟨rfl, hQR⟩ := hq
  have hPC := hPC.kept (H1 := H') (fun j hj => hkp _ ((hPC.1 j hj).lt) (fun z => hCR _ (hPC.2.1 j hj) z)) (fun h => by cases h)
  refine W.eq (g2 := F0 m 732 ls (.int ρ :: [.int ρ])) rfl ?_
  refine lv_icmp_eq (tgt := 1411) hx hb dL_law_732 (by decide) (fun _ => ?_) (fun z => absurd rfl z)
  exact kk _ _ _ _ ls hl ⟨hnx _ _ hQC hQR, hPC, hP', hS⟩
set_option maxRecDepth 100000 in
theorem law_carry {p : Program} {l : Launch} {e : Env} {s : State} {m : MethodId} {below : List Frame} {meth : Method} {c : Code} {b L : Nat} {xs : Nat → Int32} {KC KR : xK} {Rel : xM → xM → Prop} {Q : State → Prop} {cs ss : Nat} (hk1 : cs ≤ 600000) (hk2 : ss ≤ 7302250) (hC : lwX p s m meth c b L xs KC KR) (hTop : ∀ MC MR, Rel MC MR → mS MC 0 = (0, 4) ∧ 0 < mN MC ∧ mS MR 0 = (0, 5) ∧ 0 < mN MR) (hF : Fc_carry Rel) (i : Nat) (hi : i + 6 ≤ L) {MC MR : xM} {H : Heap} {locs : List Loc} (hst : lwS Rel s KC KR MC MR H locs) (ls : Array Slot) (hl : lv_has ls 4 [(3, .int (nI i)), (0, .ref b), (1, .ref (kB KC)), (2, .ref (kB KR))])
    (kk : ∀ (MC MR : xM) (H : Heap) (locs : List Loc) (ls : Array Slot), lv_has ls 4 [(3, .int (nI i)), (0, .ref b), (1, .ref (kB KC)), (2, .ref (kB KR))] → lwS Rel s KC KR MC MR H locs → W p l e room_1 s m #[Value.ref b] below meth c H locs cs ss Q (F0 m 1411 ls [])) : W p l e room_1 s m #[Value.ref b] below meth c H locs cs ss Q (F0 m 737 ls []) := by
  obtain ⟨hx, hb, hml, hown, hts, hX, hbl, hL, hUC, hUR, hAC, hAR, hCR⟩ := hC
  obtain ⟨hR, hPC, hPR, hS⟩ := hst
  refine lv_aload_n hx hb dL_law_737 rfl (lv_at hl 2 rfl) ?_
  refine lv_aload_n hx hb dL_law_738 rfl (lv_at hl 1 rfl) ?_
  refine lv_iload_n hx hb dL_law_739 rfl (lv_at hl 0 rfl) ?_
  refine lv_iconst (v := 1) hx hb dL_law_740 (by decide) ?_
  refine lv_iadd hx hb dL_law_741 ?_
  refine lw_sld (i + 1) hx hb hX hbl hS (nI_add i 1) (by omega) hL dL_law_742 ?_
  refine lv_aload_n hx hb dL_law_743 rfl (lv_at hl 1 rfl) ?_
  refine lv_iload_n hx hb dL_law_744 rfl (lv_at hl 0 rfl) ?_
  refine lv_iconst (v := 2) hx hb dL_law_745 (by decide) ?_
  refine lv_iadd hx hb dL_law_746 ?_
  refine lw_sld (i + 2) hx hb hX hbl hS (nI_add i 2) (by omega) hL dL_law_747 ?_
  refine lv_aload_n hx hb dL_law_748 rfl (lv_at hl 1 rfl) ?_
  refine lv_iload_n hx hb dL_law_749 rfl (lv_at hl 0 rfl) ?_
  refine lv_iconst (v := 3) hx hb dL_law_750 (by decide) ?_
  refine lv_iadd hx hb dL_law_751 ?_
  refine lw_sld (i + 3) hx hb hX hbl hS (nI_add i 3) (by omega) hL dL_law_752 ?_
  refine lv_aload_n hx hb dL_law_753 rfl (lv_at hl 1 rfl) ?_
  refine lv_iload_n hx hb dL_law_754 rfl (lv_at hl 0 rfl) ?_
  refine lv_iconst (v := 4) hx hb dL_law_755 (by decide) ?_
  refine lv_iadd hx hb dL_law_756 ?_
  refine lw_sld (i + 4) hx hb hX hbl hS (nI_add i 4) (by omega) hL dL_law_757 ?_
  refine lv_aload_n hx hb dL_law_758 rfl (lv_at hl 1 rfl) ?_
  refine lv_iload_n hx hb dL_law_759 rfl (lv_at hl 0 rfl) ?_
  refine lv_iconst (v := 5) hx hb dL_law_760 (by decide) ?_
  refine lv_iadd hx hb dL_law_761 ?_
  refine lw_sld (i + 5) hx hb hX hbl hS (nI_add i 5) (by omega) hL dL_law_762 ?_
  obtain ⟨ρ, QC, QR, hsC, hsR, hnx⟩ := hF (xs (i + 1)) (xs (i + 2)) (xs (i + 3)) (xs (i + 4)) (xs (i + 5)) MC MR hR
  refine lw_callV (K := KC) (M := MC) (ci := 4) [.int (xs (i + 1)), .int (xs (i + 2)), .int (xs (i + 3)), .int (xs (i + 4)), .int (xs (i + 5))] [] hx hb hml hown hts hUC hPC hS hAC hsC dL_law_763 ml_L_72 im_X5_carry (hTop MC MR hR).1 (hTop MC MR hR).2.1 rfl rfl (by decide) rfl rfl rfl rfl rfl (Nat.le_of_ble_eq_true rfl) hl.1 hk1 hk2 (fun r M' H' locs' hq hP' hkp hS => ?_)
  obtain ⟨rfl, hQC⟩ := hq
  have hPR := hPR.kept (H1 := H') (fun j hj => hkp _ ((hPR.1 j hj).lt) (fun z => hCR _ z (hPR.2.1 j hj))) (fun h => by cases h)
  have hPC := hP'
  refine W.eq (g2 := F0 m 766 ls (.int ρ :: [])) rfl ?_
  refine lv_aload_n hx hb dL_law_766 rfl (lv_at hl 3 rfl) ?_
  refine lv_aload_n hx hb dL_law_767 rfl (lv_at hl 1 rfl) ?_
  refine lv_iload_n hx hb dL_law_768 rfl (lv_at hl 0 rfl) ?_
  refine lv_iconst (v := 1) hx hb dL_law_769 (by decide) ?_
  refine lv_iadd hx hb dL_law_770 ?_
  refine lw_sld (i + 1) hx hb hX hbl hS (nI_add i 1) (by omega) hL dL_law_771 ?_
  refine lv_aload_n hx hb dL_law_772 rfl (lv_at hl 1 rfl) ?_
  refine lv_iload_n hx hb dL_law_773 rfl (lv_at hl 0 rfl) ?_
  refine lv_iconst (v := 2) hx hb dL_law_774 (by decide) ?_
  refine lv_iadd hx hb dL_law_775 ?_
  refine lw_sld (i + 2) hx hb hX hbl hS (nI_add i 2) (by omega) hL dL_law_776 ?_
  refine lv_aload_n hx hb dL_law_777 rfl (lv_at hl 1 rfl) ?_
  refine lv_iload_n hx hb dL_law_778 rfl (lv_at hl 0 rfl) ?_
  refine lv_iconst (v := 3) hx hb dL_law_779 (by decide) ?_
  refine lv_iadd hx hb dL_law_780 ?_
  refine lw_sld (i + 3) hx hb hX hbl hS (nI_add i 3) (by omega) hL dL_law_781 ?_
  refine lv_aload_n hx hb dL_law_782 rfl (lv_at hl 1 rfl) ?_
  refine lv_iload_n hx hb dL_law_783 rfl (lv_at hl 0 rfl) ?_
  refine lv_iconst (v := 4) hx hb dL_law_784 (by decide) ?_
  refine lv_iadd hx hb dL_law_785 ?_
  refine lw_sld (i + 4) hx hb hX hbl hS (nI_add i 4) (by omega) hL dL_law_786 ?_
  refine lv_aload_n hx hb dL_law_787 rfl (lv_at hl 1 rfl) ?_
  refine lv_iload_n hx hb dL_law_788 rfl (lv_at hl 0 rfl) ?_
  refine lv_iconst (v := 5) hx hb dL_law_789 (by decide) ?_
  refine lv_iadd hx hb dL_law_790 ?_
  refine lw_sld (i + 5) hx hb hX hbl hS (nI_add i 5) (by omega) hL dL_law_791 ?_
  refine lw_callV (K := KR) (M := MR) (ci := 5) [.int (xs (i + 1)), .int (xs (i + 2)), .int (xs (i + 3)), .int (xs (i + 4)), .int (xs (i + 5))] [.int ρ] hx hb hml hown hts hUR hPR hS hAR hsR dL_law_792 ml_L_76 im_X6_carry (hTop MC MR hR).2.2.1 (hTop MC MR hR).2.2.2 rfl rfl (by decide) rfl rfl rfl rfl rfl (Nat.le_of_ble_eq_true rfl) hl.1 hk1 hk2 (fun r M' H' locs' hq hP' hkp hS => ?_)
  obtain ⟨rfl, hQR⟩ := hq
  have hPC := hPC.kept (H1 := H') (fun j hj => hkp _ ((hPC.1 j hj).lt) (fun z => hCR _ (hPC.2.1 j hj) z)) (fun h => by cases h)
  refine W.eq (g2 := F0 m 795 ls (.int ρ :: [.int ρ])) rfl ?_
  refine lv_icmp_eq (tgt := 1411) hx hb dL_law_795 (by decide) (fun _ => ?_) (fun z => absurd rfl z)
  exact kk _ _ _ _ ls hl ⟨hnx _ _ hQC hQR, hPC, hP', hS⟩
set_option maxRecDepth 100000 in
theorem law_convert {p : Program} {l : Launch} {e : Env} {s : State} {m : MethodId} {below : List Frame} {meth : Method} {c : Code} {b L : Nat} {xs : Nat → Int32} {KC KR : xK} {Rel : xM → xM → Prop} {Q : State → Prop} {cs ss : Nat} (hk1 : cs ≤ 600000) (hk2 : ss ≤ 7302250) (hC : lwX p s m meth c b L xs KC KR) (hTop : ∀ MC MR, Rel MC MR → mS MC 0 = (0, 4) ∧ 0 < mN MC ∧ mS MR 0 = (0, 5) ∧ 0 < mN MR) (hF : Fc_convert Rel) (i : Nat) (hi : i + 6 ≤ L) {MC MR : xM} {H : Heap} {locs : List Loc} (hst : lwS Rel s KC KR MC MR H locs) (ls : Array Slot) (hl : lv_has ls 4 [(3, .int (nI i)), (0, .ref b), (1, .ref (kB KC)), (2, .ref (kB KR))])
    (kk : ∀ (MC MR : xM) (H : Heap) (locs : List Loc) (ls : Array Slot), lv_has ls 4 [(3, .int (nI i)), (0, .ref b), (1, .ref (kB KC)), (2, .ref (kB KR))] → lwS Rel s KC KR MC MR H locs → W p l e room_1 s m #[Value.ref b] below meth c H locs cs ss Q (F0 m 1411 ls [])) : W p l e room_1 s m #[Value.ref b] below meth c H locs cs ss Q (F0 m 800 ls []) := by
  obtain ⟨hx, hb, hml, hown, hts, hX, hbl, hL, hUC, hUR, hAC, hAR, hCR⟩ := hC
  obtain ⟨hR, hPC, hPR, hS⟩ := hst
  refine lv_aload_n hx hb dL_law_800 rfl (lv_at hl 2 rfl) ?_
  refine lv_aload_n hx hb dL_law_801 rfl (lv_at hl 1 rfl) ?_
  refine lv_iload_n hx hb dL_law_802 rfl (lv_at hl 0 rfl) ?_
  refine lv_iconst (v := 1) hx hb dL_law_803 (by decide) ?_
  refine lv_iadd hx hb dL_law_804 ?_
  refine lw_sld (i + 1) hx hb hX hbl hS (nI_add i 1) (by omega) hL dL_law_805 ?_
  refine lv_aload_n hx hb dL_law_806 rfl (lv_at hl 1 rfl) ?_
  refine lv_iload_n hx hb dL_law_807 rfl (lv_at hl 0 rfl) ?_
  refine lv_iconst (v := 2) hx hb dL_law_808 (by decide) ?_
  refine lv_iadd hx hb dL_law_809 ?_
  refine lw_sld (i + 2) hx hb hX hbl hS (nI_add i 2) (by omega) hL dL_law_810 ?_
  obtain ⟨ρ, QC, QR, hsC, hsR, hnx⟩ := hF (xs (i + 1)) (xs (i + 2)) MC MR hR
  refine lw_callV (K := KC) (M := MC) (ci := 4) [.int (xs (i + 1)), .int (xs (i + 2))] [] hx hb hml hown hts hUC hPC hS hAC hsC dL_law_811 ml_L_77 im_X5_convert (hTop MC MR hR).1 (hTop MC MR hR).2.1 rfl rfl (by decide) rfl rfl rfl rfl rfl (Nat.le_of_ble_eq_true rfl) hl.1 hk1 hk2 (fun r M' H' locs' hq hP' hkp hS => ?_)
  obtain ⟨rfl, hQC⟩ := hq
  have hPR := hPR.kept (H1 := H') (fun j hj => hkp _ ((hPR.1 j hj).lt) (fun z => hCR _ z (hPR.2.1 j hj))) (fun h => by cases h)
  have hPC := hP'
  refine W.eq (g2 := F0 m 814 ls (.int ρ :: [])) rfl ?_
  refine lv_aload_n hx hb dL_law_814 rfl (lv_at hl 3 rfl) ?_
  refine lv_aload_n hx hb dL_law_815 rfl (lv_at hl 1 rfl) ?_
  refine lv_iload_n hx hb dL_law_816 rfl (lv_at hl 0 rfl) ?_
  refine lv_iconst (v := 1) hx hb dL_law_817 (by decide) ?_
  refine lv_iadd hx hb dL_law_818 ?_
  refine lw_sld (i + 1) hx hb hX hbl hS (nI_add i 1) (by omega) hL dL_law_819 ?_
  refine lv_aload_n hx hb dL_law_820 rfl (lv_at hl 1 rfl) ?_
  refine lv_iload_n hx hb dL_law_821 rfl (lv_at hl 0 rfl) ?_
  refine lv_iconst (v := 2) hx hb dL_law_822 (by decide) ?_
  refine lv_iadd hx hb dL_law_823 ?_
  refine lw_sld (i + 2) hx hb hX hbl hS (nI_add i 2) (by omega) hL dL_law_824 ?_
  refine lw_callV (K := KR) (M := MR) (ci := 5) [.int (xs (i + 1)), .int (xs (i + 2))] [.int ρ] hx hb hml hown hts hUR hPR hS hAR hsR dL_law_825 ml_L_81 im_X6_convert (hTop MC MR hR).2.2.1 (hTop MC MR hR).2.2.2 rfl rfl (by decide) rfl rfl rfl rfl rfl (Nat.le_of_ble_eq_true rfl) hl.1 hk1 hk2 (fun r M' H' locs' hq hP' hkp hS => ?_)
  obtain ⟨rfl, hQR⟩ := hq
  have hPC := hPC.kept (H1 := H') (fun j hj => hkp _ ((hPC.1 j hj).lt) (fun z => hCR _ (hPC.2.1 j hj) z)) (fun h => by cases h)
  refine W.eq (g2 := F0 m 828 ls (.int ρ :: [.int ρ])) rfl ?_
  refine lv_icmp_eq (tgt := 1411) hx hb dL_law_828 (by decide) (fun _ => ?_) (fun z => absurd rfl z)
  exact kk _ _ _ _ ls hl ⟨hnx _ _ hQC hQR, hPC, hP', hS⟩
set_option maxRecDepth 100000 in
theorem law_shape {p : Program} {l : Launch} {e : Env} {s : State} {m : MethodId} {below : List Frame} {meth : Method} {c : Code} {b L : Nat} {xs : Nat → Int32} {KC KR : xK} {Rel : xM → xM → Prop} {Q : State → Prop} {cs ss : Nat} (hk1 : cs ≤ 600000) (hk2 : ss ≤ 7302250) (hC : lwX p s m meth c b L xs KC KR) (hTop : ∀ MC MR, Rel MC MR → mS MC 0 = (0, 4) ∧ 0 < mN MC ∧ mS MR 0 = (0, 5) ∧ 0 < mN MR) (hF : Fc_shape Rel) (i : Nat) (hi : i + 6 ≤ L) {MC MR : xM} {H : Heap} {locs : List Loc} (hst : lwS Rel s KC KR MC MR H locs) (ls : Array Slot) (hl : lv_has ls 4 [(3, .int (nI i)), (0, .ref b), (1, .ref (kB KC)), (2, .ref (kB KR))])
    (kk : ∀ (MC MR : xM) (H : Heap) (locs : List Loc) (ls : Array Slot), lv_has ls 4 [(3, .int (nI i)), (0, .ref b), (1, .ref (kB KC)), (2, .ref (kB KR))] → lwS Rel s KC KR MC MR H locs → W p l e room_1 s m #[Value.ref b] below meth c H locs cs ss Q (F0 m 1411 ls [])) : W p l e room_1 s m #[Value.ref b] below meth c H locs cs ss Q (F0 m 833 ls []) := by
  obtain ⟨hx, hb, hml, hown, hts, hX, hbl, hL, hUC, hUR, hAC, hAR, hCR⟩ := hC
  obtain ⟨hR, hPC, hPR, hS⟩ := hst
  refine lv_aload_n hx hb dL_law_833 rfl (lv_at hl 2 rfl) ?_
  refine lv_aload_n hx hb dL_law_834 rfl (lv_at hl 1 rfl) ?_
  refine lv_iload_n hx hb dL_law_835 rfl (lv_at hl 0 rfl) ?_
  refine lv_iconst (v := 1) hx hb dL_law_836 (by decide) ?_
  refine lv_iadd hx hb dL_law_837 ?_
  refine lw_sld (i + 1) hx hb hX hbl hS (nI_add i 1) (by omega) hL dL_law_838 ?_
  refine lv_aload_n hx hb dL_law_839 rfl (lv_at hl 1 rfl) ?_
  refine lv_iload_n hx hb dL_law_840 rfl (lv_at hl 0 rfl) ?_
  refine lv_iconst (v := 2) hx hb dL_law_841 (by decide) ?_
  refine lv_iadd hx hb dL_law_842 ?_
  refine lw_sld (i + 2) hx hb hX hbl hS (nI_add i 2) (by omega) hL dL_law_843 ?_
  obtain ⟨ρ, QC, QR, hsC, hsR, hnx⟩ := hF (xs (i + 1)) (xs (i + 2)) MC MR hR
  refine lw_callV (K := KC) (M := MC) (ci := 4) [.int (xs (i + 1)), .int (xs (i + 2))] [] hx hb hml hown hts hUC hPC hS hAC hsC dL_law_844 ml_L_82 im_X5_shape (hTop MC MR hR).1 (hTop MC MR hR).2.1 rfl rfl (by decide) rfl rfl rfl rfl rfl (Nat.le_of_ble_eq_true rfl) hl.1 hk1 hk2 (fun r M' H' locs' hq hP' hkp hS => ?_)
  obtain ⟨rfl, hQC⟩ := hq
  have hPR := hPR.kept (H1 := H') (fun j hj => hkp _ ((hPR.1 j hj).lt) (fun z => hCR _ z (hPR.2.1 j hj))) (fun h => by cases h)
  have hPC := hP'
  refine W.eq (g2 := F0 m 847 ls (.int ρ :: [])) rfl ?_
  refine lv_aload_n hx hb dL_law_847 rfl (lv_at hl 3 rfl) ?_
  refine lv_aload_n hx hb dL_law_848 rfl (lv_at hl 1 rfl) ?_
  refine lv_iload_n hx hb dL_law_849 rfl (lv_at hl 0 rfl) ?_
  refine lv_iconst (v := 1) hx hb dL_law_850 (by decide) ?_
  refine lv_iadd hx hb dL_law_851 ?_
  refine lw_sld (i + 1) hx hb hX hbl hS (nI_add i 1) (by omega) hL dL_law_852 ?_
  refine lv_aload_n hx hb dL_law_853 rfl (lv_at hl 1 rfl) ?_
  refine lv_iload_n hx hb dL_law_854 rfl (lv_at hl 0 rfl) ?_
  refine lv_iconst (v := 2) hx hb dL_law_855 (by decide) ?_
  refine lv_iadd hx hb dL_law_856 ?_
  refine lw_sld (i + 2) hx hb hX hbl hS (nI_add i 2) (by omega) hL dL_law_857 ?_
  refine lw_callV (K := KR) (M := MR) (ci := 5) [.int (xs (i + 1)), .int (xs (i + 2))] [.int ρ] hx hb hml hown hts hUR hPR hS hAR hsR dL_law_858 ml_L_85 im_X6_shape (hTop MC MR hR).2.2.1 (hTop MC MR hR).2.2.2 rfl rfl (by decide) rfl rfl rfl rfl rfl (Nat.le_of_ble_eq_true rfl) hl.1 hk1 hk2 (fun r M' H' locs' hq hP' hkp hS => ?_)
  obtain ⟨rfl, hQR⟩ := hq
  have hPC := hPC.kept (H1 := H') (fun j hj => hkp _ ((hPC.1 j hj).lt) (fun z => hCR _ (hPC.2.1 j hj) z)) (fun h => by cases h)
  refine W.eq (g2 := F0 m 861 ls (.int ρ :: [.int ρ])) rfl ?_
  refine lv_icmp_eq (tgt := 1411) hx hb dL_law_861 (by decide) (fun _ => ?_) (fun z => absurd rfl z)
  exact kk _ _ _ _ ls hl ⟨hnx _ _ hQC hQR, hPC, hP', hS⟩
set_option maxRecDepth 100000 in
theorem law_sum {p : Program} {l : Launch} {e : Env} {s : State} {m : MethodId} {below : List Frame} {meth : Method} {c : Code} {b L : Nat} {xs : Nat → Int32} {KC KR : xK} {Rel : xM → xM → Prop} {Q : State → Prop} {cs ss : Nat} (hk1 : cs ≤ 600000) (hk2 : ss ≤ 7302250) (hC : lwX p s m meth c b L xs KC KR) (hTop : ∀ MC MR, Rel MC MR → mS MC 0 = (0, 4) ∧ 0 < mN MC ∧ mS MR 0 = (0, 5) ∧ 0 < mN MR) (hF : Fc_sum Rel) (i : Nat) (hi : i + 6 ≤ L) {MC MR : xM} {H : Heap} {locs : List Loc} (hst : lwS Rel s KC KR MC MR H locs) (ls : Array Slot) (hl : lv_has ls 4 [(3, .int (nI i)), (0, .ref b), (1, .ref (kB KC)), (2, .ref (kB KR))])
    (kk : ∀ (MC MR : xM) (H : Heap) (locs : List Loc) (ls : Array Slot), lv_has ls 4 [(3, .int (nI i)), (0, .ref b), (1, .ref (kB KC)), (2, .ref (kB KR))] → lwS Rel s KC KR MC MR H locs → W p l e room_1 s m #[Value.ref b] below meth c H locs cs ss Q (F0 m 1411 ls [])) : W p l e room_1 s m #[Value.ref b] below meth c H locs cs ss Q (F0 m 866 ls []) := by
  obtain ⟨hx, hb, hml, hown, hts, hX, hbl, hL, hUC, hUR, hAC, hAR, hCR⟩ := hC
  obtain ⟨hR, hPC, hPR, hS⟩ := hst
  refine lv_aload_n hx hb dL_law_866 rfl (lv_at hl 2 rfl) ?_
  refine lv_aload_n hx hb dL_law_867 rfl (lv_at hl 1 rfl) ?_
  refine lv_iload_n hx hb dL_law_868 rfl (lv_at hl 0 rfl) ?_
  refine lv_iconst (v := 1) hx hb dL_law_869 (by decide) ?_
  refine lv_iadd hx hb dL_law_870 ?_
  refine lw_sld (i + 1) hx hb hX hbl hS (nI_add i 1) (by omega) hL dL_law_871 ?_
  refine lv_aload_n hx hb dL_law_872 rfl (lv_at hl 1 rfl) ?_
  refine lv_iload_n hx hb dL_law_873 rfl (lv_at hl 0 rfl) ?_
  refine lv_iconst (v := 2) hx hb dL_law_874 (by decide) ?_
  refine lv_iadd hx hb dL_law_875 ?_
  refine lw_sld (i + 2) hx hb hX hbl hS (nI_add i 2) (by omega) hL dL_law_876 ?_
  obtain ⟨ρ, QC, QR, hsC, hsR, hnx⟩ := hF (xs (i + 1)) (xs (i + 2)) MC MR hR
  refine lw_callV (K := KC) (M := MC) (ci := 4) [.int (xs (i + 1)), .int (xs (i + 2))] [] hx hb hml hown hts hUC hPC hS hAC hsC dL_law_877 ml_L_86 im_X5_sum (hTop MC MR hR).1 (hTop MC MR hR).2.1 rfl rfl (by decide) rfl rfl rfl rfl rfl (Nat.le_of_ble_eq_true rfl) hl.1 hk1 hk2 (fun r M' H' locs' hq hP' hkp hS => ?_)
  obtain ⟨rfl, hQC⟩ := hq
  have hPR := hPR.kept (H1 := H') (fun j hj => hkp _ ((hPR.1 j hj).lt) (fun z => hCR _ z (hPR.2.1 j hj))) (fun h => by cases h)
  have hPC := hP'
  refine W.eq (g2 := F0 m 880 ls (.long ρ :: [])) rfl ?_
  refine lv_aload_n hx hb dL_law_880 rfl (lv_at hl 3 rfl) ?_
  refine lv_aload_n hx hb dL_law_881 rfl (lv_at hl 1 rfl) ?_
  refine lv_iload_n hx hb dL_law_882 rfl (lv_at hl 0 rfl) ?_
  refine lv_iconst (v := 1) hx hb dL_law_883 (by decide) ?_
  refine lv_iadd hx hb dL_law_884 ?_
  refine lw_sld (i + 1) hx hb hX hbl hS (nI_add i 1) (by omega) hL dL_law_885 ?_
  refine lv_aload_n hx hb dL_law_886 rfl (lv_at hl 1 rfl) ?_
  refine lv_iload_n hx hb dL_law_887 rfl (lv_at hl 0 rfl) ?_
  refine lv_iconst (v := 2) hx hb dL_law_888 (by decide) ?_
  refine lv_iadd hx hb dL_law_889 ?_
  refine lw_sld (i + 2) hx hb hX hbl hS (nI_add i 2) (by omega) hL dL_law_890 ?_
  refine lw_callV (K := KR) (M := MR) (ci := 5) [.int (xs (i + 1)), .int (xs (i + 2))] [.long ρ] hx hb hml hown hts hUR hPR hS hAR hsR dL_law_891 ml_L_90 im_X6_sum (hTop MC MR hR).2.2.1 (hTop MC MR hR).2.2.2 rfl rfl (by decide) rfl rfl rfl rfl rfl (Nat.le_of_ble_eq_true rfl) hl.1 hk1 hk2 (fun r M' H' locs' hq hP' hkp hS => ?_)
  obtain ⟨rfl, hQR⟩ := hq
  have hPC := hPC.kept (H1 := H') (fun j hj => hkp _ ((hPC.1 j hj).lt) (fun z => hCR _ (hPC.2.1 j hj) z)) (fun h => by cases h)
  refine W.eq (g2 := F0 m 894 ls (.long ρ :: [.long ρ])) rfl ?_
  refine W.lcmp hx hb dL_law_894 ?_
  refine lv_if_eq (tgt := 1411) hx hb dL_law_895 (by decide) (fun _ => ?_) (fun z => absurd ((lg_cmp_eq ρ ρ).mpr rfl) z)
  exact kk _ _ _ _ ls hl ⟨hnx _ _ hQC hQR, hPC, hP', hS⟩
set_option maxRecDepth 100000 in
theorem law_mode {p : Program} {l : Launch} {e : Env} {s : State} {m : MethodId} {below : List Frame} {meth : Method} {c : Code} {b L : Nat} {xs : Nat → Int32} {KC KR : xK} {Rel : xM → xM → Prop} {Q : State → Prop} {cs ss : Nat} (hk1 : cs ≤ 600000) (hk2 : ss ≤ 7302250) (hC : lwX p s m meth c b L xs KC KR) (hTop : ∀ MC MR, Rel MC MR → mS MC 0 = (0, 4) ∧ 0 < mN MC ∧ mS MR 0 = (0, 5) ∧ 0 < mN MR) (hF : Fc_mode Rel) (i : Nat) (hi : i + 6 ≤ L) {MC MR : xM} {H : Heap} {locs : List Loc} (hst : lwS Rel s KC KR MC MR H locs) (ls : Array Slot) (hl : lv_has ls 4 [(3, .int (nI i)), (0, .ref b), (1, .ref (kB KC)), (2, .ref (kB KR))])
    (kk : ∀ (MC MR : xM) (H : Heap) (locs : List Loc) (ls : Array Slot), lv_has ls 4 [(3, .int (nI i)), (0, .ref b), (1, .ref (kB KC)), (2, .ref (kB KR))] → lwS Rel s KC KR MC MR H locs → W p l e room_1 s m #[Value.ref b] below meth c H locs cs ss Q (F0 m 1411 ls [])) : W p l e room_1 s m #[Value.ref b] below meth c H locs cs ss Q (F0 m 900 ls []) := by
  obtain ⟨hx, hb, hml, hown, hts, hX, hbl, hL, hUC, hUR, hAC, hAR, hCR⟩ := hC
  obtain ⟨hR, hPC, hPR, hS⟩ := hst
  refine lv_aload_n hx hb dL_law_900 rfl (lv_at hl 2 rfl) ?_
  refine lv_aload_n hx hb dL_law_901 rfl (lv_at hl 1 rfl) ?_
  refine lv_iload_n hx hb dL_law_902 rfl (lv_at hl 0 rfl) ?_
  refine lv_iconst (v := 1) hx hb dL_law_903 (by decide) ?_
  refine lv_iadd hx hb dL_law_904 ?_
  refine lw_sld (i + 1) hx hb hX hbl hS (nI_add i 1) (by omega) hL dL_law_905 ?_
  obtain ⟨ρ, QC, QR, hsC, hsR, hnx⟩ := hF (xs (i + 1)) MC MR hR
  refine lw_callV (K := KC) (M := MC) (ci := 4) [.int (xs (i + 1))] [] hx hb hml hown hts hUC hPC hS hAC hsC dL_law_906 ml_L_91 im_X5_mode (hTop MC MR hR).1 (hTop MC MR hR).2.1 rfl rfl (by decide) rfl rfl rfl rfl rfl (Nat.le_of_ble_eq_true rfl) hl.1 hk1 hk2 (fun r M' H' locs' hq hP' hkp hS => ?_)
  obtain ⟨rfl, hQC⟩ := hq
  have hPR := hPR.kept (H1 := H') (fun j hj => hkp _ ((hPR.1 j hj).lt) (fun z => hCR _ z (hPR.2.1 j hj))) (fun h => by cases h)
  have hPC := hP'
  refine W.eq (g2 := F0 m 909 ls (.int ρ :: [])) rfl ?_
  refine lv_aload_n hx hb dL_law_909 rfl (lv_at hl 3 rfl) ?_
  refine lv_aload_n hx hb dL_law_910 rfl (lv_at hl 1 rfl) ?_
  refine lv_iload_n hx hb dL_law_911 rfl (lv_at hl 0 rfl) ?_
  refine lv_iconst (v := 1) hx hb dL_law_912 (by decide) ?_
  refine lv_iadd hx hb dL_law_913 ?_
  refine lw_sld (i + 1) hx hb hX hbl hS (nI_add i 1) (by omega) hL dL_law_914 ?_
  refine lw_callV (K := KR) (M := MR) (ci := 5) [.int (xs (i + 1))] [.int ρ] hx hb hml hown hts hUR hPR hS hAR hsR dL_law_915 ml_L_94 im_X6_mode (hTop MC MR hR).2.2.1 (hTop MC MR hR).2.2.2 rfl rfl (by decide) rfl rfl rfl rfl rfl (Nat.le_of_ble_eq_true rfl) hl.1 hk1 hk2 (fun r M' H' locs' hq hP' hkp hS => ?_)
  obtain ⟨rfl, hQR⟩ := hq
  have hPC := hPC.kept (H1 := H') (fun j hj => hkp _ ((hPC.1 j hj).lt) (fun z => hCR _ (hPC.2.1 j hj) z)) (fun h => by cases h)
  refine W.eq (g2 := F0 m 918 ls (.int ρ :: [.int ρ])) rfl ?_
  refine lv_icmp_eq (tgt := 1411) hx hb dL_law_918 (by decide) (fun _ => ?_) (fun z => absurd rfl z)
  exact kk _ _ _ _ ls hl ⟨hnx _ _ hQC hQR, hPC, hP', hS⟩
set_option maxRecDepth 100000 in
theorem law_lay {p : Program} {l : Launch} {e : Env} {s : State} {m : MethodId} {below : List Frame} {meth : Method} {c : Code} {b L : Nat} {xs : Nat → Int32} {KC KR : xK} {Rel : xM → xM → Prop} {Q : State → Prop} {cs ss : Nat} (hk1 : cs ≤ 600000) (hk2 : ss ≤ 7302250) (hC : lwX p s m meth c b L xs KC KR) (hTop : ∀ MC MR, Rel MC MR → mS MC 0 = (0, 4) ∧ 0 < mN MC ∧ mS MR 0 = (0, 5) ∧ 0 < mN MR) (hF : Fc_lay Rel) (i : Nat) (hi : i + 6 ≤ L) {MC MR : xM} {H : Heap} {locs : List Loc} (hst : lwS Rel s KC KR MC MR H locs) (ls : Array Slot) (hl : lv_has ls 4 [(3, .int (nI i)), (0, .ref b), (1, .ref (kB KC)), (2, .ref (kB KR))])
    (kk : ∀ (MC MR : xM) (H : Heap) (locs : List Loc) (ls : Array Slot), lv_has ls 4 [(3, .int (nI i)), (0, .ref b), (1, .ref (kB KC)), (2, .ref (kB KR))] → lwS Rel s KC KR MC MR H locs → W p l e room_1 s m #[Value.ref b] below meth c H locs cs ss Q (F0 m 1411 ls [])) : W p l e room_1 s m #[Value.ref b] below meth c H locs cs ss Q (F0 m 923 ls []) := by
  obtain ⟨hx, hb, hml, hown, hts, hX, hbl, hL, hUC, hUR, hAC, hAR, hCR⟩ := hC
  obtain ⟨hR, hPC, hPR, hS⟩ := hst
  refine lv_aload_n hx hb dL_law_923 rfl (lv_at hl 2 rfl) ?_
  refine lv_aload_n hx hb dL_law_924 rfl (lv_at hl 1 rfl) ?_
  refine lv_iload_n hx hb dL_law_925 rfl (lv_at hl 0 rfl) ?_
  refine lv_iconst (v := 1) hx hb dL_law_926 (by decide) ?_
  refine lv_iadd hx hb dL_law_927 ?_
  refine lw_sld (i + 1) hx hb hX hbl hS (nI_add i 1) (by omega) hL dL_law_928 ?_
  obtain ⟨ρ, QC, QR, hsC, hsR, hnx⟩ := hF (xs (i + 1)) MC MR hR
  refine lw_callV (K := KC) (M := MC) (ci := 4) [.int (xs (i + 1))] [] hx hb hml hown hts hUC hPC hS hAC hsC dL_law_929 ml_L_95 im_X5_lay (hTop MC MR hR).1 (hTop MC MR hR).2.1 rfl rfl (by decide) rfl rfl rfl rfl rfl (Nat.le_of_ble_eq_true rfl) hl.1 hk1 hk2 (fun r M' H' locs' hq hP' hkp hS => ?_)
  obtain ⟨rfl, hQC⟩ := hq
  have hPR := hPR.kept (H1 := H') (fun j hj => hkp _ ((hPR.1 j hj).lt) (fun z => hCR _ z (hPR.2.1 j hj))) (fun h => by cases h)
  have hPC := hP'
  refine W.eq (g2 := F0 m 932 ls (.int ρ :: [])) rfl ?_
  refine lv_aload_n hx hb dL_law_932 rfl (lv_at hl 3 rfl) ?_
  refine lv_aload_n hx hb dL_law_933 rfl (lv_at hl 1 rfl) ?_
  refine lv_iload_n hx hb dL_law_934 rfl (lv_at hl 0 rfl) ?_
  refine lv_iconst (v := 1) hx hb dL_law_935 (by decide) ?_
  refine lv_iadd hx hb dL_law_936 ?_
  refine lw_sld (i + 1) hx hb hX hbl hS (nI_add i 1) (by omega) hL dL_law_937 ?_
  refine lw_callV (K := KR) (M := MR) (ci := 5) [.int (xs (i + 1))] [.int ρ] hx hb hml hown hts hUR hPR hS hAR hsR dL_law_938 ml_L_98 im_X6_lay (hTop MC MR hR).2.2.1 (hTop MC MR hR).2.2.2 rfl rfl (by decide) rfl rfl rfl rfl rfl (Nat.le_of_ble_eq_true rfl) hl.1 hk1 hk2 (fun r M' H' locs' hq hP' hkp hS => ?_)
  obtain ⟨rfl, hQR⟩ := hq
  have hPC := hPC.kept (H1 := H') (fun j hj => hkp _ ((hPC.1 j hj).lt) (fun z => hCR _ (hPC.2.1 j hj) z)) (fun h => by cases h)
  refine W.eq (g2 := F0 m 941 ls (.int ρ :: [.int ρ])) rfl ?_
  refine lv_icmp_eq (tgt := 1411) hx hb dL_law_941 (by decide) (fun _ => ?_) (fun z => absurd rfl z)
  exact kk _ _ _ _ ls hl ⟨hnx _ _ hQC hQR, hPC, hP', hS⟩
set_option maxRecDepth 100000 in
theorem law_tape {p : Program} {l : Launch} {e : Env} {s : State} {m : MethodId} {below : List Frame} {meth : Method} {c : Code} {b L : Nat} {xs : Nat → Int32} {KC KR : xK} {Rel : xM → xM → Prop} {Q : State → Prop} {cs ss : Nat} (hk1 : cs ≤ 600000) (hk2 : ss ≤ 7302250) (hC : lwX p s m meth c b L xs KC KR) (hTop : ∀ MC MR, Rel MC MR → mS MC 0 = (0, 4) ∧ 0 < mN MC ∧ mS MR 0 = (0, 5) ∧ 0 < mN MR) (hF : Fc_tape Rel) (i : Nat) (hi : i + 6 ≤ L) {MC MR : xM} {H : Heap} {locs : List Loc} (hst : lwS Rel s KC KR MC MR H locs) (ls : Array Slot) (hl : lv_has ls 4 [(3, .int (nI i)), (0, .ref b), (1, .ref (kB KC)), (2, .ref (kB KR))])
    (kk : ∀ (MC MR : xM) (H : Heap) (locs : List Loc) (ls : Array Slot), lv_has ls 4 [(3, .int (nI i)), (0, .ref b), (1, .ref (kB KC)), (2, .ref (kB KR))] → lwS Rel s KC KR MC MR H locs → W p l e room_1 s m #[Value.ref b] below meth c H locs cs ss Q (F0 m 1411 ls [])) : W p l e room_1 s m #[Value.ref b] below meth c H locs cs ss Q (F0 m 946 ls []) := by
  obtain ⟨hx, hb, hml, hown, hts, hX, hbl, hL, hUC, hUR, hAC, hAR, hCR⟩ := hC
  obtain ⟨hR, hPC, hPR, hS⟩ := hst
  refine lv_aload_n hx hb dL_law_946 rfl (lv_at hl 2 rfl) ?_
  refine lv_aload_n hx hb dL_law_947 rfl (lv_at hl 1 rfl) ?_
  refine lv_iload_n hx hb dL_law_948 rfl (lv_at hl 0 rfl) ?_
  refine lv_iconst (v := 1) hx hb dL_law_949 (by decide) ?_
  refine lv_iadd hx hb dL_law_950 ?_
  refine lw_sld (i + 1) hx hb hX hbl hS (nI_add i 1) (by omega) hL dL_law_951 ?_
  obtain ⟨ρ, QC, QR, hsC, hsR, hnx⟩ := hF (xs (i + 1)) MC MR hR
  refine lw_callV (K := KC) (M := MC) (ci := 4) [.int (xs (i + 1))] [] hx hb hml hown hts hUC hPC hS hAC hsC dL_law_952 ml_L_99 im_X5_tape (hTop MC MR hR).1 (hTop MC MR hR).2.1 rfl rfl (by decide) rfl rfl rfl rfl rfl (Nat.le_of_ble_eq_true rfl) hl.1 hk1 hk2 (fun r M' H' locs' hq hP' hkp hS => ?_)
  obtain ⟨rfl, hQC⟩ := hq
  have hPR := hPR.kept (H1 := H') (fun j hj => hkp _ ((hPR.1 j hj).lt) (fun z => hCR _ z (hPR.2.1 j hj))) (fun h => by cases h)
  have hPC := hP'
  refine W.eq (g2 := F0 m 955 ls (.int ρ :: [])) rfl ?_
  refine lv_aload_n hx hb dL_law_955 rfl (lv_at hl 3 rfl) ?_
  refine lv_aload_n hx hb dL_law_956 rfl (lv_at hl 1 rfl) ?_
  refine lv_iload_n hx hb dL_law_957 rfl (lv_at hl 0 rfl) ?_
  refine lv_iconst (v := 1) hx hb dL_law_958 (by decide) ?_
  refine lv_iadd hx hb dL_law_959 ?_
  refine lw_sld (i + 1) hx hb hX hbl hS (nI_add i 1) (by omega) hL dL_law_960 ?_
  refine lw_callV (K := KR) (M := MR) (ci := 5) [.int (xs (i + 1))] [.int ρ] hx hb hml hown hts hUR hPR hS hAR hsR dL_law_961 ml_L_102 im_X6_tape (hTop MC MR hR).2.2.1 (hTop MC MR hR).2.2.2 rfl rfl (by decide) rfl rfl rfl rfl rfl (Nat.le_of_ble_eq_true rfl) hl.1 hk1 hk2 (fun r M' H' locs' hq hP' hkp hS => ?_)
  obtain ⟨rfl, hQR⟩ := hq
  have hPC := hPC.kept (H1 := H') (fun j hj => hkp _ ((hPC.1 j hj).lt) (fun z => hCR _ (hPC.2.1 j hj) z)) (fun h => by cases h)
  refine W.eq (g2 := F0 m 964 ls (.int ρ :: [.int ρ])) rfl ?_
  refine lv_icmp_eq (tgt := 1411) hx hb dL_law_964 (by decide) (fun _ => ?_) (fun z => absurd rfl z)
  exact kk _ _ _ _ ls hl ⟨hnx _ _ hQC hQR, hPC, hP', hS⟩
set_option maxRecDepth 100000 in
theorem law_poke {p : Program} {l : Launch} {e : Env} {s : State} {m : MethodId} {below : List Frame} {meth : Method} {c : Code} {b L : Nat} {xs : Nat → Int32} {KC KR : xK} {Rel : xM → xM → Prop} {Q : State → Prop} {cs ss : Nat} (hk1 : cs ≤ 600000) (hk2 : ss ≤ 7302250) (hC : lwX p s m meth c b L xs KC KR) (hTop : ∀ MC MR, Rel MC MR → mS MC 0 = (0, 4) ∧ 0 < mN MC ∧ mS MR 0 = (0, 5) ∧ 0 < mN MR) (hF : Fc_poke Rel) (i : Nat) (hi : i + 6 ≤ L) {MC MR : xM} {H : Heap} {locs : List Loc} (hst : lwS Rel s KC KR MC MR H locs) (ls : Array Slot) (hl : lv_has ls 4 [(3, .int (nI i)), (0, .ref b), (1, .ref (kB KC)), (2, .ref (kB KR))])
    (kk : ∀ (MC MR : xM) (H : Heap) (locs : List Loc) (ls : Array Slot), lv_has ls 4 [(3, .int (nI i)), (0, .ref b), (1, .ref (kB KC)), (2, .ref (kB KR))] → lwS Rel s KC KR MC MR H locs → W p l e room_1 s m #[Value.ref b] below meth c H locs cs ss Q (F0 m 1411 ls [])) : W p l e room_1 s m #[Value.ref b] below meth c H locs cs ss Q (F0 m 969 ls []) := by
  obtain ⟨hx, hb, hml, hown, hts, hX, hbl, hL, hUC, hUR, hAC, hAR, hCR⟩ := hC
  obtain ⟨hR, hPC, hPR, hS⟩ := hst
  refine lv_aload_n hx hb dL_law_969 rfl (lv_at hl 2 rfl) ?_
  refine lv_aload_n hx hb dL_law_970 rfl (lv_at hl 1 rfl) ?_
  refine lv_iload_n hx hb dL_law_971 rfl (lv_at hl 0 rfl) ?_
  refine lv_iconst (v := 1) hx hb dL_law_972 (by decide) ?_
  refine lv_iadd hx hb dL_law_973 ?_
  refine lw_sld (i + 1) hx hb hX hbl hS (nI_add i 1) (by omega) hL dL_law_974 ?_
  refine lv_aload_n hx hb dL_law_975 rfl (lv_at hl 1 rfl) ?_
  refine lv_iload_n hx hb dL_law_976 rfl (lv_at hl 0 rfl) ?_
  refine lv_iconst (v := 2) hx hb dL_law_977 (by decide) ?_
  refine lv_iadd hx hb dL_law_978 ?_
  refine lw_sld (i + 2) hx hb hX hbl hS (nI_add i 2) (by omega) hL dL_law_979 ?_
  obtain ⟨ρ, QC, QR, hsC, hsR, hnx⟩ := hF (xs (i + 1)) (xs (i + 2)) MC MR hR
  refine lw_callV (K := KC) (M := MC) (ci := 4) [.int (xs (i + 1)), .int (xs (i + 2))] [] hx hb hml hown hts hUC hPC hS hAC hsC dL_law_980 ml_L_103 im_X5_poke (hTop MC MR hR).1 (hTop MC MR hR).2.1 rfl rfl (by decide) rfl rfl rfl rfl rfl (Nat.le_of_ble_eq_true rfl) hl.1 hk1 hk2 (fun r M' H' locs' hq hP' hkp hS => ?_)
  obtain ⟨rfl, hQC⟩ := hq
  have hPR := hPR.kept (H1 := H') (fun j hj => hkp _ ((hPR.1 j hj).lt) (fun z => hCR _ z (hPR.2.1 j hj))) (fun h => by cases h)
  have hPC := hP'
  refine W.eq (g2 := F0 m 983 ls (.int ρ :: [])) rfl ?_
  refine lv_aload_n hx hb dL_law_983 rfl (lv_at hl 3 rfl) ?_
  refine lv_aload_n hx hb dL_law_984 rfl (lv_at hl 1 rfl) ?_
  refine lv_iload_n hx hb dL_law_985 rfl (lv_at hl 0 rfl) ?_
  refine lv_iconst (v := 1) hx hb dL_law_986 (by decide) ?_
  refine lv_iadd hx hb dL_law_987 ?_
  refine lw_sld (i + 1) hx hb hX hbl hS (nI_add i 1) (by omega) hL dL_law_988 ?_
  refine lv_aload_n hx hb dL_law_989 rfl (lv_at hl 1 rfl) ?_
  refine lv_iload_n hx hb dL_law_990 rfl (lv_at hl 0 rfl) ?_
  refine lv_iconst (v := 2) hx hb dL_law_991 (by decide) ?_
  refine lv_iadd hx hb dL_law_992 ?_
  refine lw_sld (i + 2) hx hb hX hbl hS (nI_add i 2) (by omega) hL dL_law_993 ?_
  refine lw_callV (K := KR) (M := MR) (ci := 5) [.int (xs (i + 1)), .int (xs (i + 2))] [.int ρ] hx hb hml hown hts hUR hPR hS hAR hsR dL_law_994 ml_L_106 im_X6_poke (hTop MC MR hR).2.2.1 (hTop MC MR hR).2.2.2 rfl rfl (by decide) rfl rfl rfl rfl rfl (Nat.le_of_ble_eq_true rfl) hl.1 hk1 hk2 (fun r M' H' locs' hq hP' hkp hS => ?_)
  obtain ⟨rfl, hQR⟩ := hq
  have hPC := hPC.kept (H1 := H') (fun j hj => hkp _ ((hPC.1 j hj).lt) (fun z => hCR _ (hPC.2.1 j hj) z)) (fun h => by cases h)
  refine W.eq (g2 := F0 m 997 ls (.int ρ :: [.int ρ])) rfl ?_
  refine lv_icmp_eq (tgt := 1411) hx hb dL_law_997 (by decide) (fun _ => ?_) (fun z => absurd rfl z)
  exact kk _ _ _ _ ls hl ⟨hnx _ _ hQC hQR, hPC, hP', hS⟩
set_option maxRecDepth 100000 in
theorem law_cut {p : Program} {l : Launch} {e : Env} {s : State} {m : MethodId} {below : List Frame} {meth : Method} {c : Code} {b L : Nat} {xs : Nat → Int32} {KC KR : xK} {Rel : xM → xM → Prop} {Q : State → Prop} {cs ss : Nat} (hk1 : cs ≤ 600000) (hk2 : ss ≤ 7302250) (hC : lwX p s m meth c b L xs KC KR) (hTop : ∀ MC MR, Rel MC MR → mS MC 0 = (0, 4) ∧ 0 < mN MC ∧ mS MR 0 = (0, 5) ∧ 0 < mN MR) (hF : Fc_cut Rel) (i : Nat) (hi : i + 6 ≤ L) {MC MR : xM} {H : Heap} {locs : List Loc} (hst : lwS Rel s KC KR MC MR H locs) (ls : Array Slot) (hl : lv_has ls 4 [(3, .int (nI i)), (0, .ref b), (1, .ref (kB KC)), (2, .ref (kB KR))])
    (kk : ∀ (MC MR : xM) (H : Heap) (locs : List Loc) (ls : Array Slot), lv_has ls 4 [(3, .int (nI i)), (0, .ref b), (1, .ref (kB KC)), (2, .ref (kB KR))] → lwS Rel s KC KR MC MR H locs → W p l e room_1 s m #[Value.ref b] below meth c H locs cs ss Q (F0 m 1411 ls [])) : W p l e room_1 s m #[Value.ref b] below meth c H locs cs ss Q (F0 m 1002 ls []) := by
  obtain ⟨hx, hb, hml, hown, hts, hX, hbl, hL, hUC, hUR, hAC, hAR, hCR⟩ := hC
  obtain ⟨hR, hPC, hPR, hS⟩ := hst
  refine lv_aload_n hx hb dL_law_1002 rfl (lv_at hl 2 rfl) ?_
  refine lv_aload_n hx hb dL_law_1003 rfl (lv_at hl 1 rfl) ?_
  refine lv_iload_n hx hb dL_law_1004 rfl (lv_at hl 0 rfl) ?_
  refine lv_iconst (v := 1) hx hb dL_law_1005 (by decide) ?_
  refine lv_iadd hx hb dL_law_1006 ?_
  refine lw_sld (i + 1) hx hb hX hbl hS (nI_add i 1) (by omega) hL dL_law_1007 ?_
  obtain ⟨ρ, QC, QR, hsC, hsR, hnx⟩ := hF (xs (i + 1)) MC MR hR
  refine lw_callV (K := KC) (M := MC) (ci := 4) [.int (xs (i + 1))] [] hx hb hml hown hts hUC hPC hS hAC hsC dL_law_1008 ml_L_107 im_X5_cut (hTop MC MR hR).1 (hTop MC MR hR).2.1 rfl rfl (by decide) rfl rfl rfl rfl rfl (Nat.le_of_ble_eq_true rfl) hl.1 hk1 hk2 (fun r M' H' locs' hq hP' hkp hS => ?_)
  obtain ⟨rfl, hQC⟩ := hq
  have hPR := hPR.kept (H1 := H') (fun j hj => hkp _ ((hPR.1 j hj).lt) (fun z => hCR _ z (hPR.2.1 j hj))) (fun h => by cases h)
  have hPC := hP'
  refine W.eq (g2 := F0 m 1011 ls (.int ρ :: [])) rfl ?_
  refine lv_aload_n hx hb dL_law_1011 rfl (lv_at hl 3 rfl) ?_
  refine lv_aload_n hx hb dL_law_1012 rfl (lv_at hl 1 rfl) ?_
  refine lv_iload_n hx hb dL_law_1013 rfl (lv_at hl 0 rfl) ?_
  refine lv_iconst (v := 1) hx hb dL_law_1014 (by decide) ?_
  refine lv_iadd hx hb dL_law_1015 ?_
  refine lw_sld (i + 1) hx hb hX hbl hS (nI_add i 1) (by omega) hL dL_law_1016 ?_
  refine lw_callV (K := KR) (M := MR) (ci := 5) [.int (xs (i + 1))] [.int ρ] hx hb hml hown hts hUR hPR hS hAR hsR dL_law_1017 ml_L_110 im_X6_cut (hTop MC MR hR).2.2.1 (hTop MC MR hR).2.2.2 rfl rfl (by decide) rfl rfl rfl rfl rfl (Nat.le_of_ble_eq_true rfl) hl.1 hk1 hk2 (fun r M' H' locs' hq hP' hkp hS => ?_)
  obtain ⟨rfl, hQR⟩ := hq
  have hPC := hPC.kept (H1 := H') (fun j hj => hkp _ ((hPC.1 j hj).lt) (fun z => hCR _ (hPC.2.1 j hj) z)) (fun h => by cases h)
  refine W.eq (g2 := F0 m 1020 ls (.int ρ :: [.int ρ])) rfl ?_
  refine lv_icmp_eq (tgt := 1411) hx hb dL_law_1020 (by decide) (fun _ => ?_) (fun z => absurd rfl z)
  exact kk _ _ _ _ ls hl ⟨hnx _ _ hQC hQR, hPC, hP', hS⟩
set_option maxRecDepth 100000 in
theorem law_seek {p : Program} {l : Launch} {e : Env} {s : State} {m : MethodId} {below : List Frame} {meth : Method} {c : Code} {b L : Nat} {xs : Nat → Int32} {KC KR : xK} {Rel : xM → xM → Prop} {Q : State → Prop} {cs ss : Nat} (hk1 : cs ≤ 600000) (hk2 : ss ≤ 7302250) (hC : lwX p s m meth c b L xs KC KR) (hTop : ∀ MC MR, Rel MC MR → mS MC 0 = (0, 4) ∧ 0 < mN MC ∧ mS MR 0 = (0, 5) ∧ 0 < mN MR) (hF : Fc_seek Rel) (i : Nat) (hi : i + 6 ≤ L) {MC MR : xM} {H : Heap} {locs : List Loc} (hst : lwS Rel s KC KR MC MR H locs) (ls : Array Slot) (hl : lv_has ls 4 [(3, .int (nI i)), (0, .ref b), (1, .ref (kB KC)), (2, .ref (kB KR))])
    (kk : ∀ (MC MR : xM) (H : Heap) (locs : List Loc) (ls : Array Slot), lv_has ls 4 [(3, .int (nI i)), (0, .ref b), (1, .ref (kB KC)), (2, .ref (kB KR))] → lwS Rel s KC KR MC MR H locs → W p l e room_1 s m #[Value.ref b] below meth c H locs cs ss Q (F0 m 1411 ls [])) : W p l e room_1 s m #[Value.ref b] below meth c H locs cs ss Q (F0 m 1025 ls []) := by
  obtain ⟨hx, hb, hml, hown, hts, hX, hbl, hL, hUC, hUR, hAC, hAR, hCR⟩ := hC
  obtain ⟨hR, hPC, hPR, hS⟩ := hst
  refine lv_aload_n hx hb dL_law_1025 rfl (lv_at hl 2 rfl) ?_
  refine lv_aload_n hx hb dL_law_1026 rfl (lv_at hl 1 rfl) ?_
  refine lv_iload_n hx hb dL_law_1027 rfl (lv_at hl 0 rfl) ?_
  refine lv_iconst (v := 1) hx hb dL_law_1028 (by decide) ?_
  refine lv_iadd hx hb dL_law_1029 ?_
  refine lw_sld (i + 1) hx hb hX hbl hS (nI_add i 1) (by omega) hL dL_law_1030 ?_
  obtain ⟨ρ, QC, QR, hsC, hsR, hnx⟩ := hF (xs (i + 1)) MC MR hR
  refine lw_callV (K := KC) (M := MC) (ci := 4) [.int (xs (i + 1))] [] hx hb hml hown hts hUC hPC hS hAC hsC dL_law_1031 ml_L_111 im_X5_seek (hTop MC MR hR).1 (hTop MC MR hR).2.1 rfl rfl (by decide) rfl rfl rfl rfl rfl (Nat.le_of_ble_eq_true rfl) hl.1 hk1 hk2 (fun r M' H' locs' hq hP' hkp hS => ?_)
  obtain ⟨rfl, hQC⟩ := hq
  have hPR := hPR.kept (H1 := H') (fun j hj => hkp _ ((hPR.1 j hj).lt) (fun z => hCR _ z (hPR.2.1 j hj))) (fun h => by cases h)
  have hPC := hP'
  refine W.eq (g2 := F0 m 1034 ls (.int ρ :: [])) rfl ?_
  refine lv_aload_n hx hb dL_law_1034 rfl (lv_at hl 3 rfl) ?_
  refine lv_aload_n hx hb dL_law_1035 rfl (lv_at hl 1 rfl) ?_
  refine lv_iload_n hx hb dL_law_1036 rfl (lv_at hl 0 rfl) ?_
  refine lv_iconst (v := 1) hx hb dL_law_1037 (by decide) ?_
  refine lv_iadd hx hb dL_law_1038 ?_
  refine lw_sld (i + 1) hx hb hX hbl hS (nI_add i 1) (by omega) hL dL_law_1039 ?_
  refine lw_callV (K := KR) (M := MR) (ci := 5) [.int (xs (i + 1))] [.int ρ] hx hb hml hown hts hUR hPR hS hAR hsR dL_law_1040 ml_L_114 im_X6_seek (hTop MC MR hR).2.2.1 (hTop MC MR hR).2.2.2 rfl rfl (by decide) rfl rfl rfl rfl rfl (Nat.le_of_ble_eq_true rfl) hl.1 hk1 hk2 (fun r M' H' locs' hq hP' hkp hS => ?_)
  obtain ⟨rfl, hQR⟩ := hq
  have hPC := hPC.kept (H1 := H') (fun j hj => hkp _ ((hPC.1 j hj).lt) (fun z => hCR _ (hPC.2.1 j hj) z)) (fun h => by cases h)
  refine W.eq (g2 := F0 m 1043 ls (.int ρ :: [.int ρ])) rfl ?_
  refine lv_icmp_eq (tgt := 1411) hx hb dL_law_1043 (by decide) (fun _ => ?_) (fun z => absurd rfl z)
  exact kk _ _ _ _ ls hl ⟨hnx _ _ hQC hQR, hPC, hP', hS⟩
set_option maxRecDepth 100000 in
theorem law_read {p : Program} {l : Launch} {e : Env} {s : State} {m : MethodId} {below : List Frame} {meth : Method} {c : Code} {b L : Nat} {xs : Nat → Int32} {KC KR : xK} {Rel : xM → xM → Prop} {Q : State → Prop} {cs ss : Nat} (hk1 : cs ≤ 600000) (hk2 : ss ≤ 7302250) (hC : lwX p s m meth c b L xs KC KR) (hTop : ∀ MC MR, Rel MC MR → mS MC 0 = (0, 4) ∧ 0 < mN MC ∧ mS MR 0 = (0, 5) ∧ 0 < mN MR) (hF : Fc_read Rel) (i : Nat) (hi : i + 6 ≤ L) {MC MR : xM} {H : Heap} {locs : List Loc} (hst : lwS Rel s KC KR MC MR H locs) (ls : Array Slot) (hl : lv_has ls 4 [(3, .int (nI i)), (0, .ref b), (1, .ref (kB KC)), (2, .ref (kB KR))])
    (kk : ∀ (MC MR : xM) (H : Heap) (locs : List Loc) (ls : Array Slot), lv_has ls 4 [(3, .int (nI i)), (0, .ref b), (1, .ref (kB KC)), (2, .ref (kB KR))] → lwS Rel s KC KR MC MR H locs → W p l e room_1 s m #[Value.ref b] below meth c H locs cs ss Q (F0 m 1411 ls [])) : W p l e room_1 s m #[Value.ref b] below meth c H locs cs ss Q (F0 m 1048 ls []) := by
  obtain ⟨hx, hb, hml, hown, hts, hX, hbl, hL, hUC, hUR, hAC, hAR, hCR⟩ := hC
  obtain ⟨hR, hPC, hPR, hS⟩ := hst
  refine lv_aload_n hx hb dL_law_1048 rfl (lv_at hl 2 rfl) ?_
  obtain ⟨ρ, QC, QR, hsC, hsR, hnx⟩ := hF  MC MR hR
  refine lw_callV (K := KC) (M := MC) (ci := 4) [] [] hx hb hml hown hts hUC hPC hS hAC hsC dL_law_1049 ml_L_115 im_X5_read (hTop MC MR hR).1 (hTop MC MR hR).2.1 rfl rfl (by decide) rfl rfl rfl rfl rfl (Nat.le_of_ble_eq_true rfl) hl.1 hk1 hk2 (fun r M' H' locs' hq hP' hkp hS => ?_)
  obtain ⟨rfl, hQC⟩ := hq
  have hPR := hPR.kept (H1 := H') (fun j hj => hkp _ ((hPR.1 j hj).lt) (fun z => hCR _ z (hPR.2.1 j hj))) (fun h => by cases h)
  have hPC := hP'
  refine W.eq (g2 := F0 m 1052 ls (.int ρ :: [])) rfl ?_
  refine lv_aload_n hx hb dL_law_1052 rfl (lv_at hl 3 rfl) ?_
  refine lw_callV (K := KR) (M := MR) (ci := 5) [] [.int ρ] hx hb hml hown hts hUR hPR hS hAR hsR dL_law_1053 ml_L_119 im_X6_read (hTop MC MR hR).2.2.1 (hTop MC MR hR).2.2.2 rfl rfl (by decide) rfl rfl rfl rfl rfl (Nat.le_of_ble_eq_true rfl) hl.1 hk1 hk2 (fun r M' H' locs' hq hP' hkp hS => ?_)
  obtain ⟨rfl, hQR⟩ := hq
  have hPC := hPC.kept (H1 := H') (fun j hj => hkp _ ((hPC.1 j hj).lt) (fun z => hCR _ (hPC.2.1 j hj) z)) (fun h => by cases h)
  refine W.eq (g2 := F0 m 1056 ls (.int ρ :: [.int ρ])) rfl ?_
  refine lv_icmp_eq (tgt := 1411) hx hb dL_law_1056 (by decide) (fun _ => ?_) (fun z => absurd rfl z)
  exact kk _ _ _ _ ls hl ⟨hnx _ _ hQC hQR, hPC, hP', hS⟩
set_option maxRecDepth 100000 in
theorem law_readAs {p : Program} {l : Launch} {e : Env} {s : State} {m : MethodId} {below : List Frame} {meth : Method} {c : Code} {b L : Nat} {xs : Nat → Int32} {KC KR : xK} {Rel : xM → xM → Prop} {Q : State → Prop} {cs ss : Nat} (hk1 : cs ≤ 600000) (hk2 : ss ≤ 7302250) (hC : lwX p s m meth c b L xs KC KR) (hTop : ∀ MC MR, Rel MC MR → mS MC 0 = (0, 4) ∧ 0 < mN MC ∧ mS MR 0 = (0, 5) ∧ 0 < mN MR) (hF : Fc_readAs Rel) (i : Nat) (hi : i + 6 ≤ L) {MC MR : xM} {H : Heap} {locs : List Loc} (hst : lwS Rel s KC KR MC MR H locs) (ls : Array Slot) (hl : lv_has ls 4 [(3, .int (nI i)), (0, .ref b), (1, .ref (kB KC)), (2, .ref (kB KR))])
    (kk : ∀ (MC MR : xM) (H : Heap) (locs : List Loc) (ls : Array Slot), lv_has ls 4 [(3, .int (nI i)), (0, .ref b), (1, .ref (kB KC)), (2, .ref (kB KR))] → lwS Rel s KC KR MC MR H locs → W p l e room_1 s m #[Value.ref b] below meth c H locs cs ss Q (F0 m 1411 ls [])) : W p l e room_1 s m #[Value.ref b] below meth c H locs cs ss Q (F0 m 1061 ls []) := by
  obtain ⟨hx, hb, hml, hown, hts, hX, hbl, hL, hUC, hUR, hAC, hAR, hCR⟩ := hC
  obtain ⟨hR, hPC, hPR, hS⟩ := hst
  refine lv_aload_n hx hb dL_law_1061 rfl (lv_at hl 2 rfl) ?_
  refine lv_aload_n hx hb dL_law_1062 rfl (lv_at hl 1 rfl) ?_
  refine lv_iload_n hx hb dL_law_1063 rfl (lv_at hl 0 rfl) ?_
  refine lv_iconst (v := 1) hx hb dL_law_1064 (by decide) ?_
  refine lv_iadd hx hb dL_law_1065 ?_
  refine lw_sld (i + 1) hx hb hX hbl hS (nI_add i 1) (by omega) hL dL_law_1066 ?_
  obtain ⟨ρ, QC, QR, hsC, hsR, hnx⟩ := hF (xs (i + 1)) MC MR hR
  refine lw_callV (K := KC) (M := MC) (ci := 4) [.int (xs (i + 1))] [] hx hb hml hown hts hUC hPC hS hAC hsC dL_law_1067 ml_L_120 im_X5_readAs (hTop MC MR hR).1 (hTop MC MR hR).2.1 rfl rfl (by decide) rfl rfl rfl rfl rfl (Nat.le_of_ble_eq_true rfl) hl.1 hk1 hk2 (fun r M' H' locs' hq hP' hkp hS => ?_)
  obtain ⟨rfl, hQC⟩ := hq
  have hPR := hPR.kept (H1 := H') (fun j hj => hkp _ ((hPR.1 j hj).lt) (fun z => hCR _ z (hPR.2.1 j hj))) (fun h => by cases h)
  have hPC := hP'
  refine W.eq (g2 := F0 m 1070 ls (.int ρ :: [])) rfl ?_
  refine lv_aload_n hx hb dL_law_1070 rfl (lv_at hl 3 rfl) ?_
  refine lv_aload_n hx hb dL_law_1071 rfl (lv_at hl 1 rfl) ?_
  refine lv_iload_n hx hb dL_law_1072 rfl (lv_at hl 0 rfl) ?_
  refine lv_iconst (v := 1) hx hb dL_law_1073 (by decide) ?_
  refine lv_iadd hx hb dL_law_1074 ?_
  refine lw_sld (i + 1) hx hb hX hbl hS (nI_add i 1) (by omega) hL dL_law_1075 ?_
  refine lw_callV (K := KR) (M := MR) (ci := 5) [.int (xs (i + 1))] [.int ρ] hx hb hml hown hts hUR hPR hS hAR hsR dL_law_1076 ml_L_123 im_X6_readAs (hTop MC MR hR).2.2.1 (hTop MC MR hR).2.2.2 rfl rfl (by decide) rfl rfl rfl rfl rfl (Nat.le_of_ble_eq_true rfl) hl.1 hk1 hk2 (fun r M' H' locs' hq hP' hkp hS => ?_)
  obtain ⟨rfl, hQR⟩ := hq
  have hPC := hPC.kept (H1 := H') (fun j hj => hkp _ ((hPC.1 j hj).lt) (fun z => hCR _ (hPC.2.1 j hj) z)) (fun h => by cases h)
  refine W.eq (g2 := F0 m 1079 ls (.int ρ :: [.int ρ])) rfl ?_
  refine lv_icmp_eq (tgt := 1411) hx hb dL_law_1079 (by decide) (fun _ => ?_) (fun z => absurd rfl z)
  exact kk _ _ _ _ ls hl ⟨hnx _ _ hQC hQR, hPC, hP', hS⟩
set_option maxRecDepth 100000 in
theorem law_skip {p : Program} {l : Launch} {e : Env} {s : State} {m : MethodId} {below : List Frame} {meth : Method} {c : Code} {b L : Nat} {xs : Nat → Int32} {KC KR : xK} {Rel : xM → xM → Prop} {Q : State → Prop} {cs ss : Nat} (hk1 : cs ≤ 600000) (hk2 : ss ≤ 7302250) (hC : lwX p s m meth c b L xs KC KR) (hTop : ∀ MC MR, Rel MC MR → mS MC 0 = (0, 4) ∧ 0 < mN MC ∧ mS MR 0 = (0, 5) ∧ 0 < mN MR) (hF : Fc_skip Rel) (i : Nat) (hi : i + 6 ≤ L) {MC MR : xM} {H : Heap} {locs : List Loc} (hst : lwS Rel s KC KR MC MR H locs) (ls : Array Slot) (hl : lv_has ls 4 [(3, .int (nI i)), (0, .ref b), (1, .ref (kB KC)), (2, .ref (kB KR))])
    (kk : ∀ (MC MR : xM) (H : Heap) (locs : List Loc) (ls : Array Slot), lv_has ls 4 [(3, .int (nI i)), (0, .ref b), (1, .ref (kB KC)), (2, .ref (kB KR))] → lwS Rel s KC KR MC MR H locs → W p l e room_1 s m #[Value.ref b] below meth c H locs cs ss Q (F0 m 1411 ls [])) : W p l e room_1 s m #[Value.ref b] below meth c H locs cs ss Q (F0 m 1084 ls []) := by
  obtain ⟨hx, hb, hml, hown, hts, hX, hbl, hL, hUC, hUR, hAC, hAR, hCR⟩ := hC
  obtain ⟨hR, hPC, hPR, hS⟩ := hst
  refine lv_aload_n hx hb dL_law_1084 rfl (lv_at hl 2 rfl) ?_
  obtain ⟨ρ, QC, QR, hsC, hsR, hnx⟩ := hF  MC MR hR
  refine lw_callV (K := KC) (M := MC) (ci := 4) [] [] hx hb hml hown hts hUC hPC hS hAC hsC dL_law_1085 ml_L_124 im_X5_skip (hTop MC MR hR).1 (hTop MC MR hR).2.1 rfl rfl (by decide) rfl rfl rfl rfl rfl (Nat.le_of_ble_eq_true rfl) hl.1 hk1 hk2 (fun r M' H' locs' hq hP' hkp hS => ?_)
  obtain ⟨rfl, hQC⟩ := hq
  have hPR := hPR.kept (H1 := H') (fun j hj => hkp _ ((hPR.1 j hj).lt) (fun z => hCR _ z (hPR.2.1 j hj))) (fun h => by cases h)
  have hPC := hP'
  refine W.eq (g2 := F0 m 1088 ls (.int ρ :: [])) rfl ?_
  refine lv_aload_n hx hb dL_law_1088 rfl (lv_at hl 3 rfl) ?_
  refine lw_callV (K := KR) (M := MR) (ci := 5) [] [.int ρ] hx hb hml hown hts hUR hPR hS hAR hsR dL_law_1089 ml_L_127 im_X6_skip (hTop MC MR hR).2.2.1 (hTop MC MR hR).2.2.2 rfl rfl (by decide) rfl rfl rfl rfl rfl (Nat.le_of_ble_eq_true rfl) hl.1 hk1 hk2 (fun r M' H' locs' hq hP' hkp hS => ?_)
  obtain ⟨rfl, hQR⟩ := hq
  have hPC := hPC.kept (H1 := H') (fun j hj => hkp _ ((hPC.1 j hj).lt) (fun z => hCR _ (hPC.2.1 j hj) z)) (fun h => by cases h)
  refine W.eq (g2 := F0 m 1092 ls (.int ρ :: [.int ρ])) rfl ?_
  refine lv_icmp_eq (tgt := 1411) hx hb dL_law_1092 (by decide) (fun _ => ?_) (fun z => absurd rfl z)
  exact kk _ _ _ _ ls hl ⟨hnx _ _ hQC hQR, hPC, hP', hS⟩
set_option maxRecDepth 100000 in
theorem law_relay {p : Program} {l : Launch} {e : Env} {s : State} {m : MethodId} {below : List Frame} {meth : Method} {c : Code} {b L : Nat} {xs : Nat → Int32} {KC KR : xK} {Rel : xM → xM → Prop} {Q : State → Prop} {cs ss : Nat} (hk1 : cs ≤ 600000) (hk2 : ss ≤ 7302250) (hC : lwX p s m meth c b L xs KC KR) (hTop : ∀ MC MR, Rel MC MR → mS MC 0 = (0, 4) ∧ 0 < mN MC ∧ mS MR 0 = (0, 5) ∧ 0 < mN MR) (hF : Fc_relay Rel) (i : Nat) (hi : i + 6 ≤ L) {MC MR : xM} {H : Heap} {locs : List Loc} (hst : lwS Rel s KC KR MC MR H locs) (ls : Array Slot) (hl : lv_has ls 4 [(3, .int (nI i)), (0, .ref b), (1, .ref (kB KC)), (2, .ref (kB KR))])
    (kk : ∀ (MC MR : xM) (H : Heap) (locs : List Loc) (ls : Array Slot), lv_has ls 4 [(3, .int (nI i)), (0, .ref b), (1, .ref (kB KC)), (2, .ref (kB KR))] → lwS Rel s KC KR MC MR H locs → W p l e room_1 s m #[Value.ref b] below meth c H locs cs ss Q (F0 m 1411 ls [])) : W p l e room_1 s m #[Value.ref b] below meth c H locs cs ss Q (F0 m 1097 ls []) := by
  obtain ⟨hx, hb, hml, hown, hts, hX, hbl, hL, hUC, hUR, hAC, hAR, hCR⟩ := hC
  obtain ⟨hR, hPC, hPR, hS⟩ := hst
  refine lv_aload_n hx hb dL_law_1097 rfl (lv_at hl 2 rfl) ?_
  refine lv_aload_n hx hb dL_law_1098 rfl (lv_at hl 1 rfl) ?_
  refine lv_iload_n hx hb dL_law_1099 rfl (lv_at hl 0 rfl) ?_
  refine lv_iconst (v := 1) hx hb dL_law_1100 (by decide) ?_
  refine lv_iadd hx hb dL_law_1101 ?_
  refine lw_sld (i + 1) hx hb hX hbl hS (nI_add i 1) (by omega) hL dL_law_1102 ?_
  obtain ⟨ρ, QC, QR, hsC, hsR, hnx⟩ := hF (xs (i + 1)) MC MR hR
  refine lw_callV (K := KC) (M := MC) (ci := 4) [.int (xs (i + 1))] [] hx hb hml hown hts hUC hPC hS hAC hsC dL_law_1103 ml_L_128 im_X5_relay (hTop MC MR hR).1 (hTop MC MR hR).2.1 rfl rfl (by decide) rfl rfl rfl rfl rfl (Nat.le_of_ble_eq_true rfl) hl.1 hk1 hk2 (fun r M' H' locs' hq hP' hkp hS => ?_)
  obtain ⟨rfl, hQC⟩ := hq
  have hPR := hPR.kept (H1 := H') (fun j hj => hkp _ ((hPR.1 j hj).lt) (fun z => hCR _ z (hPR.2.1 j hj))) (fun h => by cases h)
  have hPC := hP'
  refine W.eq (g2 := F0 m 1106 ls (.int ρ :: [])) rfl ?_
  refine lv_aload_n hx hb dL_law_1106 rfl (lv_at hl 3 rfl) ?_
  refine lv_aload_n hx hb dL_law_1107 rfl (lv_at hl 1 rfl) ?_
  refine lv_iload_n hx hb dL_law_1108 rfl (lv_at hl 0 rfl) ?_
  refine lv_iconst (v := 1) hx hb dL_law_1109 (by decide) ?_
  refine lv_iadd hx hb dL_law_1110 ?_
  refine lw_sld (i + 1) hx hb hX hbl hS (nI_add i 1) (by omega) hL dL_law_1111 ?_
  refine lw_callV (K := KR) (M := MR) (ci := 5) [.int (xs (i + 1))] [.int ρ] hx hb hml hown hts hUR hPR hS hAR hsR dL_law_1112 ml_L_131 im_X6_relay (hTop MC MR hR).2.2.1 (hTop MC MR hR).2.2.2 rfl rfl (by decide) rfl rfl rfl rfl rfl (Nat.le_of_ble_eq_true rfl) hl.1 hk1 hk2 (fun r M' H' locs' hq hP' hkp hS => ?_)
  obtain ⟨rfl, hQR⟩ := hq
  have hPC := hPC.kept (H1 := H') (fun j hj => hkp _ ((hPC.1 j hj).lt) (fun z => hCR _ (hPC.2.1 j hj) z)) (fun h => by cases h)
  refine W.eq (g2 := F0 m 1115 ls (.int ρ :: [.int ρ])) rfl ?_
  refine lv_icmp_eq (tgt := 1411) hx hb dL_law_1115 (by decide) (fun _ => ?_) (fun z => absurd rfl z)
  exact kk _ _ _ _ ls hl ⟨hnx _ _ hQC hQR, hPC, hP', hS⟩
set_option maxRecDepth 100000 in
theorem law_slack {p : Program} {l : Launch} {e : Env} {s : State} {m : MethodId} {below : List Frame} {meth : Method} {c : Code} {b L : Nat} {xs : Nat → Int32} {KC KR : xK} {Rel : xM → xM → Prop} {Q : State → Prop} {cs ss : Nat} (hk1 : cs ≤ 600000) (hk2 : ss ≤ 7302250) (hC : lwX p s m meth c b L xs KC KR) (hTop : ∀ MC MR, Rel MC MR → mS MC 0 = (0, 4) ∧ 0 < mN MC ∧ mS MR 0 = (0, 5) ∧ 0 < mN MR) (hF : Fc_slack Rel) (i : Nat) (hi : i + 6 ≤ L) {MC MR : xM} {H : Heap} {locs : List Loc} (hst : lwS Rel s KC KR MC MR H locs) (ls : Array Slot) (hl : lv_has ls 4 [(3, .int (nI i)), (0, .ref b), (1, .ref (kB KC)), (2, .ref (kB KR))])
    (kk : ∀ (MC MR : xM) (H : Heap) (locs : List Loc) (ls : Array Slot), lv_has ls 4 [(3, .int (nI i)), (0, .ref b), (1, .ref (kB KC)), (2, .ref (kB KR))] → lwS Rel s KC KR MC MR H locs → W p l e room_1 s m #[Value.ref b] below meth c H locs cs ss Q (F0 m 1411 ls [])) : W p l e room_1 s m #[Value.ref b] below meth c H locs cs ss Q (F0 m 1120 ls []) := by
  obtain ⟨hx, hb, hml, hown, hts, hX, hbl, hL, hUC, hUR, hAC, hAR, hCR⟩ := hC
  obtain ⟨hR, hPC, hPR, hS⟩ := hst
  refine lv_aload_n hx hb dL_law_1120 rfl (lv_at hl 2 rfl) ?_
  refine lv_aload_n hx hb dL_law_1121 rfl (lv_at hl 1 rfl) ?_
  refine lv_iload_n hx hb dL_law_1122 rfl (lv_at hl 0 rfl) ?_
  refine lv_iconst (v := 1) hx hb dL_law_1123 (by decide) ?_
  refine lv_iadd hx hb dL_law_1124 ?_
  refine lw_sld (i + 1) hx hb hX hbl hS (nI_add i 1) (by omega) hL dL_law_1125 ?_
  obtain ⟨ρ, QC, QR, hsC, hsR, hnx⟩ := hF (xs (i + 1)) MC MR hR
  refine lw_callV (K := KC) (M := MC) (ci := 4) [.int (xs (i + 1))] [] hx hb hml hown hts hUC hPC hS hAC hsC dL_law_1126 ml_L_132 im_X5_slack (hTop MC MR hR).1 (hTop MC MR hR).2.1 rfl rfl (by decide) rfl rfl rfl rfl rfl (Nat.le_of_ble_eq_true rfl) hl.1 hk1 hk2 (fun r M' H' locs' hq hP' hkp hS => ?_)
  obtain ⟨rfl, hQC⟩ := hq
  have hPR := hPR.kept (H1 := H') (fun j hj => hkp _ ((hPR.1 j hj).lt) (fun z => hCR _ z (hPR.2.1 j hj))) (fun h => by cases h)
  have hPC := hP'
  refine W.eq (g2 := F0 m 1129 ls (.int ρ :: [])) rfl ?_
  refine lv_aload_n hx hb dL_law_1129 rfl (lv_at hl 3 rfl) ?_
  refine lv_aload_n hx hb dL_law_1130 rfl (lv_at hl 1 rfl) ?_
  refine lv_iload_n hx hb dL_law_1131 rfl (lv_at hl 0 rfl) ?_
  refine lv_iconst (v := 1) hx hb dL_law_1132 (by decide) ?_
  refine lv_iadd hx hb dL_law_1133 ?_
  refine lw_sld (i + 1) hx hb hX hbl hS (nI_add i 1) (by omega) hL dL_law_1134 ?_
  refine lw_callV (K := KR) (M := MR) (ci := 5) [.int (xs (i + 1))] [.int ρ] hx hb hml hown hts hUR hPR hS hAR hsR dL_law_1135 ml_L_135 im_X6_slack (hTop MC MR hR).2.2.1 (hTop MC MR hR).2.2.2 rfl rfl (by decide) rfl rfl rfl rfl rfl (Nat.le_of_ble_eq_true rfl) hl.1 hk1 hk2 (fun r M' H' locs' hq hP' hkp hS => ?_)
  obtain ⟨rfl, hQR⟩ := hq
  have hPC := hPC.kept (H1 := H') (fun j hj => hkp _ ((hPC.1 j hj).lt) (fun z => hCR _ (hPC.2.1 j hj) z)) (fun h => by cases h)
  refine W.eq (g2 := F0 m 1138 ls (.int ρ :: [.int ρ])) rfl ?_
  refine lv_icmp_eq (tgt := 1411) hx hb dL_law_1138 (by decide) (fun _ => ?_) (fun z => absurd rfl z)
  exact kk _ _ _ _ ls hl ⟨hnx _ _ hQC hQR, hPC, hP', hS⟩
set_option maxRecDepth 100000 in
theorem law_find {p : Program} {l : Launch} {e : Env} {s : State} {m : MethodId} {below : List Frame} {meth : Method} {c : Code} {b L : Nat} {xs : Nat → Int32} {KC KR : xK} {Rel : xM → xM → Prop} {Q : State → Prop} {cs ss : Nat} (hk1 : cs ≤ 600000) (hk2 : ss ≤ 7302250) (hC : lwX p s m meth c b L xs KC KR) (hTop : ∀ MC MR, Rel MC MR → mS MC 0 = (0, 4) ∧ 0 < mN MC ∧ mS MR 0 = (0, 5) ∧ 0 < mN MR) (hF : Fc_find Rel) (i : Nat) (hi : i + 6 ≤ L) {MC MR : xM} {H : Heap} {locs : List Loc} (hst : lwS Rel s KC KR MC MR H locs) (ls : Array Slot) (hl : lv_has ls 4 [(3, .int (nI i)), (0, .ref b), (1, .ref (kB KC)), (2, .ref (kB KR))])
    (kk : ∀ (MC MR : xM) (H : Heap) (locs : List Loc) (ls : Array Slot), lv_has ls 4 [(3, .int (nI i)), (0, .ref b), (1, .ref (kB KC)), (2, .ref (kB KR))] → lwS Rel s KC KR MC MR H locs → W p l e room_1 s m #[Value.ref b] below meth c H locs cs ss Q (F0 m 1411 ls [])) : W p l e room_1 s m #[Value.ref b] below meth c H locs cs ss Q (F0 m 1143 ls []) := by
  obtain ⟨hx, hb, hml, hown, hts, hX, hbl, hL, hUC, hUR, hAC, hAR, hCR⟩ := hC
  obtain ⟨hR, hPC, hPR, hS⟩ := hst
  refine lv_aload_n hx hb dL_law_1143 rfl (lv_at hl 2 rfl) ?_
  refine lv_aload_n hx hb dL_law_1144 rfl (lv_at hl 1 rfl) ?_
  refine lv_iload_n hx hb dL_law_1145 rfl (lv_at hl 0 rfl) ?_
  refine lv_iconst (v := 1) hx hb dL_law_1146 (by decide) ?_
  refine lv_iadd hx hb dL_law_1147 ?_
  refine lw_sld (i + 1) hx hb hX hbl hS (nI_add i 1) (by omega) hL dL_law_1148 ?_
  obtain ⟨ρ, QC, QR, hsC, hsR, hnx⟩ := hF (xs (i + 1)) MC MR hR
  refine lw_callV (K := KC) (M := MC) (ci := 4) [.int (xs (i + 1))] [] hx hb hml hown hts hUC hPC hS hAC hsC dL_law_1149 ml_L_136 im_X5_find (hTop MC MR hR).1 (hTop MC MR hR).2.1 rfl rfl (by decide) rfl rfl rfl rfl rfl (Nat.le_of_ble_eq_true rfl) hl.1 hk1 hk2 (fun r M' H' locs' hq hP' hkp hS => ?_)
  obtain ⟨rfl, hQC⟩ := hq
  have hPR := hPR.kept (H1 := H') (fun j hj => hkp _ ((hPR.1 j hj).lt) (fun z => hCR _ z (hPR.2.1 j hj))) (fun h => by cases h)
  have hPC := hP'
  refine W.eq (g2 := F0 m 1152 ls (.int ρ :: [])) rfl ?_
  refine lv_aload_n hx hb dL_law_1152 rfl (lv_at hl 3 rfl) ?_
  refine lv_aload_n hx hb dL_law_1153 rfl (lv_at hl 1 rfl) ?_
  refine lv_iload_n hx hb dL_law_1154 rfl (lv_at hl 0 rfl) ?_
  refine lv_iconst (v := 1) hx hb dL_law_1155 (by decide) ?_
  refine lv_iadd hx hb dL_law_1156 ?_
  refine lw_sld (i + 1) hx hb hX hbl hS (nI_add i 1) (by omega) hL dL_law_1157 ?_
  refine lw_callV (K := KR) (M := MR) (ci := 5) [.int (xs (i + 1))] [.int ρ] hx hb hml hown hts hUR hPR hS hAR hsR dL_law_1158 ml_L_139 im_X6_find (hTop MC MR hR).2.2.1 (hTop MC MR hR).2.2.2 rfl rfl (by decide) rfl rfl rfl rfl rfl (Nat.le_of_ble_eq_true rfl) hl.1 hk1 hk2 (fun r M' H' locs' hq hP' hkp hS => ?_)
  obtain ⟨rfl, hQR⟩ := hq
  have hPC := hPC.kept (H1 := H') (fun j hj => hkp _ ((hPC.1 j hj).lt) (fun z => hCR _ (hPC.2.1 j hj) z)) (fun h => by cases h)
  refine W.eq (g2 := F0 m 1161 ls (.int ρ :: [.int ρ])) rfl ?_
  refine lv_icmp_eq (tgt := 1411) hx hb dL_law_1161 (by decide) (fun _ => ?_) (fun z => absurd rfl z)
  exact kk _ _ _ _ ls hl ⟨hnx _ _ hQC hQR, hPC, hP', hS⟩
set_option maxRecDepth 100000 in
theorem law_laid {p : Program} {l : Launch} {e : Env} {s : State} {m : MethodId} {below : List Frame} {meth : Method} {c : Code} {b L : Nat} {xs : Nat → Int32} {KC KR : xK} {Rel : xM → xM → Prop} {Q : State → Prop} {cs ss : Nat} (hk1 : cs ≤ 600000) (hk2 : ss ≤ 7302250) (hC : lwX p s m meth c b L xs KC KR) (hTop : ∀ MC MR, Rel MC MR → mS MC 0 = (0, 4) ∧ 0 < mN MC ∧ mS MR 0 = (0, 5) ∧ 0 < mN MR) (hF : Fc_laid Rel) (i : Nat) (hi : i + 6 ≤ L) {MC MR : xM} {H : Heap} {locs : List Loc} (hst : lwS Rel s KC KR MC MR H locs) (ls : Array Slot) (hl : lv_has ls 4 [(3, .int (nI i)), (0, .ref b), (1, .ref (kB KC)), (2, .ref (kB KR))])
    (kk : ∀ (MC MR : xM) (H : Heap) (locs : List Loc) (ls : Array Slot), lv_has ls 4 [(3, .int (nI i)), (0, .ref b), (1, .ref (kB KC)), (2, .ref (kB KR))] → lwS Rel s KC KR MC MR H locs → W p l e room_1 s m #[Value.ref b] below meth c H locs cs ss Q (F0 m 1411 ls [])) : W p l e room_1 s m #[Value.ref b] below meth c H locs cs ss Q (F0 m 1166 ls []) := by
  obtain ⟨hx, hb, hml, hown, hts, hX, hbl, hL, hUC, hUR, hAC, hAR, hCR⟩ := hC
  obtain ⟨hR, hPC, hPR, hS⟩ := hst
  refine lv_aload_n hx hb dL_law_1166 rfl (lv_at hl 2 rfl) ?_
  refine lv_aload_n hx hb dL_law_1167 rfl (lv_at hl 1 rfl) ?_
  refine lv_iload_n hx hb dL_law_1168 rfl (lv_at hl 0 rfl) ?_
  refine lv_iconst (v := 1) hx hb dL_law_1169 (by decide) ?_
  refine lv_iadd hx hb dL_law_1170 ?_
  refine lw_sld (i + 1) hx hb hX hbl hS (nI_add i 1) (by omega) hL dL_law_1171 ?_
  refine lv_aload_n hx hb dL_law_1172 rfl (lv_at hl 1 rfl) ?_
  refine lv_iload_n hx hb dL_law_1173 rfl (lv_at hl 0 rfl) ?_
  refine lv_iconst (v := 2) hx hb dL_law_1174 (by decide) ?_
  refine lv_iadd hx hb dL_law_1175 ?_
  refine lw_sld (i + 2) hx hb hX hbl hS (nI_add i 2) (by omega) hL dL_law_1176 ?_
  obtain ⟨ρ, QC, QR, hsC, hsR, hnx⟩ := hF (xs (i + 1)) (xs (i + 2)) MC MR hR
  refine lw_callV (K := KC) (M := MC) (ci := 4) [.int (xs (i + 1)), .int (xs (i + 2))] [] hx hb hml hown hts hUC hPC hS hAC hsC dL_law_1177 ml_L_140 im_X5_laid (hTop MC MR hR).1 (hTop MC MR hR).2.1 rfl rfl (by decide) rfl rfl rfl rfl rfl (Nat.le_of_ble_eq_true rfl) hl.1 hk1 hk2 (fun r M' H' locs' hq hP' hkp hS => ?_)
  obtain ⟨rfl, hQC⟩ := hq
  have hPR := hPR.kept (H1 := H') (fun j hj => hkp _ ((hPR.1 j hj).lt) (fun z => hCR _ z (hPR.2.1 j hj))) (fun h => by cases h)
  have hPC := hP'
  refine W.eq (g2 := F0 m 1180 ls (.int ρ :: [])) rfl ?_
  refine lv_aload_n hx hb dL_law_1180 rfl (lv_at hl 3 rfl) ?_
  refine lv_aload_n hx hb dL_law_1181 rfl (lv_at hl 1 rfl) ?_
  refine lv_iload_n hx hb dL_law_1182 rfl (lv_at hl 0 rfl) ?_
  refine lv_iconst (v := 1) hx hb dL_law_1183 (by decide) ?_
  refine lv_iadd hx hb dL_law_1184 ?_
  refine lw_sld (i + 1) hx hb hX hbl hS (nI_add i 1) (by omega) hL dL_law_1185 ?_
  refine lv_aload_n hx hb dL_law_1186 rfl (lv_at hl 1 rfl) ?_
  refine lv_iload_n hx hb dL_law_1187 rfl (lv_at hl 0 rfl) ?_
  refine lv_iconst (v := 2) hx hb dL_law_1188 (by decide) ?_
  refine lv_iadd hx hb dL_law_1189 ?_
  refine lw_sld (i + 2) hx hb hX hbl hS (nI_add i 2) (by omega) hL dL_law_1190 ?_
  refine lw_callV (K := KR) (M := MR) (ci := 5) [.int (xs (i + 1)), .int (xs (i + 2))] [.int ρ] hx hb hml hown hts hUR hPR hS hAR hsR dL_law_1191 ml_L_143 im_X6_laid (hTop MC MR hR).2.2.1 (hTop MC MR hR).2.2.2 rfl rfl (by decide) rfl rfl rfl rfl rfl (Nat.le_of_ble_eq_true rfl) hl.1 hk1 hk2 (fun r M' H' locs' hq hP' hkp hS => ?_)
  obtain ⟨rfl, hQR⟩ := hq
  have hPC := hPC.kept (H1 := H') (fun j hj => hkp _ ((hPC.1 j hj).lt) (fun z => hCR _ (hPC.2.1 j hj) z)) (fun h => by cases h)
  refine W.eq (g2 := F0 m 1194 ls (.int ρ :: [.int ρ])) rfl ?_
  refine lv_icmp_eq (tgt := 1411) hx hb dL_law_1194 (by decide) (fun _ => ?_) (fun z => absurd rfl z)
  exact kk _ _ _ _ ls hl ⟨hnx _ _ hQC hQR, hPC, hP', hS⟩
set_option maxRecDepth 100000 in
theorem law_part {p : Program} {l : Launch} {e : Env} {s : State} {m : MethodId} {below : List Frame} {meth : Method} {c : Code} {b L : Nat} {xs : Nat → Int32} {KC KR : xK} {Rel : xM → xM → Prop} {Q : State → Prop} {cs ss : Nat} (hk1 : cs ≤ 600000) (hk2 : ss ≤ 7302250) (hC : lwX p s m meth c b L xs KC KR) (hTop : ∀ MC MR, Rel MC MR → mS MC 0 = (0, 4) ∧ 0 < mN MC ∧ mS MR 0 = (0, 5) ∧ 0 < mN MR) (hF : Fc_part Rel) (i : Nat) (hi : i + 6 ≤ L) {MC MR : xM} {H : Heap} {locs : List Loc} (hst : lwS Rel s KC KR MC MR H locs) (ls : Array Slot) (hl : lv_has ls 4 [(3, .int (nI i)), (0, .ref b), (1, .ref (kB KC)), (2, .ref (kB KR))])
    (kk : ∀ (MC MR : xM) (H : Heap) (locs : List Loc) (ls : Array Slot), lv_has ls 4 [(3, .int (nI i)), (0, .ref b), (1, .ref (kB KC)), (2, .ref (kB KR))] → lwS Rel s KC KR MC MR H locs → W p l e room_1 s m #[Value.ref b] below meth c H locs cs ss Q (F0 m 1411 ls [])) : W p l e room_1 s m #[Value.ref b] below meth c H locs cs ss Q (F0 m 1199 ls []) := by
  obtain ⟨hx, hb, hml, hown, hts, hX, hbl, hL, hUC, hUR, hAC, hAR, hCR⟩ := hC
  obtain ⟨hR, hPC, hPR, hS⟩ := hst
  refine lv_aload_n hx hb dL_law_1199 rfl (lv_at hl 2 rfl) ?_
  refine lv_aload_n hx hb dL_law_1200 rfl (lv_at hl 1 rfl) ?_
  refine lv_iload_n hx hb dL_law_1201 rfl (lv_at hl 0 rfl) ?_
  refine lv_iconst (v := 1) hx hb dL_law_1202 (by decide) ?_
  refine lv_iadd hx hb dL_law_1203 ?_
  refine lw_sld (i + 1) hx hb hX hbl hS (nI_add i 1) (by omega) hL dL_law_1204 ?_
  refine lv_aload_n hx hb dL_law_1205 rfl (lv_at hl 1 rfl) ?_
  refine lv_iload_n hx hb dL_law_1206 rfl (lv_at hl 0 rfl) ?_
  refine lv_iconst (v := 2) hx hb dL_law_1207 (by decide) ?_
  refine lv_iadd hx hb dL_law_1208 ?_
  refine lw_sld (i + 2) hx hb hX hbl hS (nI_add i 2) (by omega) hL dL_law_1209 ?_
  obtain ⟨ρ, QC, QR, hsC, hsR, hnx⟩ := hF (xs (i + 1)) (xs (i + 2)) MC MR hR
  refine lw_callV (K := KC) (M := MC) (ci := 4) [.int (xs (i + 1)), .int (xs (i + 2))] [] hx hb hml hown hts hUC hPC hS hAC hsC dL_law_1210 ml_L_144 im_X5_part (hTop MC MR hR).1 (hTop MC MR hR).2.1 rfl rfl (by decide) rfl rfl rfl rfl rfl (Nat.le_of_ble_eq_true rfl) hl.1 hk1 hk2 (fun r M' H' locs' hq hP' hkp hS => ?_)
  obtain ⟨rfl, hQC⟩ := hq
  have hPR := hPR.kept (H1 := H') (fun j hj => hkp _ ((hPR.1 j hj).lt) (fun z => hCR _ z (hPR.2.1 j hj))) (fun h => by cases h)
  have hPC := hP'
  refine W.eq (g2 := F0 m 1213 ls (.int ρ :: [])) rfl ?_
  refine lv_aload_n hx hb dL_law_1213 rfl (lv_at hl 3 rfl) ?_
  refine lv_aload_n hx hb dL_law_1214 rfl (lv_at hl 1 rfl) ?_
  refine lv_iload_n hx hb dL_law_1215 rfl (lv_at hl 0 rfl) ?_
  refine lv_iconst (v := 1) hx hb dL_law_1216 (by decide) ?_
  refine lv_iadd hx hb dL_law_1217 ?_
  refine lw_sld (i + 1) hx hb hX hbl hS (nI_add i 1) (by omega) hL dL_law_1218 ?_
  refine lv_aload_n hx hb dL_law_1219 rfl (lv_at hl 1 rfl) ?_
  refine lv_iload_n hx hb dL_law_1220 rfl (lv_at hl 0 rfl) ?_
  refine lv_iconst (v := 2) hx hb dL_law_1221 (by decide) ?_
  refine lv_iadd hx hb dL_law_1222 ?_
  refine lw_sld (i + 2) hx hb hX hbl hS (nI_add i 2) (by omega) hL dL_law_1223 ?_
  refine lw_callV (K := KR) (M := MR) (ci := 5) [.int (xs (i + 1)), .int (xs (i + 2))] [.int ρ] hx hb hml hown hts hUR hPR hS hAR hsR dL_law_1224 ml_L_147 im_X6_part (hTop MC MR hR).2.2.1 (hTop MC MR hR).2.2.2 rfl rfl (by decide) rfl rfl rfl rfl rfl (Nat.le_of_ble_eq_true rfl) hl.1 hk1 hk2 (fun r M' H' locs' hq hP' hkp hS => ?_)
  obtain ⟨rfl, hQR⟩ := hq
  have hPC := hPC.kept (H1 := H') (fun j hj => hkp _ ((hPC.1 j hj).lt) (fun z => hCR _ (hPC.2.1 j hj) z)) (fun h => by cases h)
  refine W.eq (g2 := F0 m 1227 ls (.int ρ :: [.int ρ])) rfl ?_
  refine lv_icmp_eq (tgt := 1411) hx hb dL_law_1227 (by decide) (fun _ => ?_) (fun z => absurd rfl z)
  exact kk _ _ _ _ ls hl ⟨hnx _ _ hQC hQR, hPC, hP', hS⟩
set_option maxRecDepth 100000 in
theorem law_hangs {p : Program} {l : Launch} {e : Env} {s : State} {m : MethodId} {below : List Frame} {meth : Method} {c : Code} {b L : Nat} {xs : Nat → Int32} {KC KR : xK} {Rel : xM → xM → Prop} {Q : State → Prop} {cs ss : Nat} (hk1 : cs ≤ 600000) (hk2 : ss ≤ 7302250) (hC : lwX p s m meth c b L xs KC KR) (hTop : ∀ MC MR, Rel MC MR → mS MC 0 = (0, 4) ∧ 0 < mN MC ∧ mS MR 0 = (0, 5) ∧ 0 < mN MR) (hF : Fc_hangs Rel) (i : Nat) (hi : i + 6 ≤ L) {MC MR : xM} {H : Heap} {locs : List Loc} (hst : lwS Rel s KC KR MC MR H locs) (ls : Array Slot) (hl : lv_has ls 4 [(3, .int (nI i)), (0, .ref b), (1, .ref (kB KC)), (2, .ref (kB KR))])
    (kk : ∀ (MC MR : xM) (H : Heap) (locs : List Loc) (ls : Array Slot), lv_has ls 4 [(3, .int (nI i)), (0, .ref b), (1, .ref (kB KC)), (2, .ref (kB KR))] → lwS Rel s KC KR MC MR H locs → W p l e room_1 s m #[Value.ref b] below meth c H locs cs ss Q (F0 m 1411 ls [])) : W p l e room_1 s m #[Value.ref b] below meth c H locs cs ss Q (F0 m 1232 ls []) := by
  obtain ⟨hx, hb, hml, hown, hts, hX, hbl, hL, hUC, hUR, hAC, hAR, hCR⟩ := hC
  obtain ⟨hR, hPC, hPR, hS⟩ := hst
  refine lv_aload_n hx hb dL_law_1232 rfl (lv_at hl 2 rfl) ?_
  refine lv_aload_n hx hb dL_law_1233 rfl (lv_at hl 1 rfl) ?_
  refine lv_iload_n hx hb dL_law_1234 rfl (lv_at hl 0 rfl) ?_
  refine lv_iconst (v := 1) hx hb dL_law_1235 (by decide) ?_
  refine lv_iadd hx hb dL_law_1236 ?_
  refine lw_sld (i + 1) hx hb hX hbl hS (nI_add i 1) (by omega) hL dL_law_1237 ?_
  obtain ⟨ρ, QC, QR, hsC, hsR, hnx⟩ := hF (xs (i + 1)) MC MR hR
  refine lw_callV (K := KC) (M := MC) (ci := 4) [.int (xs (i + 1))] [] hx hb hml hown hts hUC hPC hS hAC hsC dL_law_1238 ml_L_148 im_X5_hangs (hTop MC MR hR).1 (hTop MC MR hR).2.1 rfl rfl (by decide) rfl rfl rfl rfl rfl (Nat.le_of_ble_eq_true rfl) hl.1 hk1 hk2 (fun r M' H' locs' hq hP' hkp hS => ?_)
  obtain ⟨rfl, hQC⟩ := hq
  have hPR := hPR.kept (H1 := H') (fun j hj => hkp _ ((hPR.1 j hj).lt) (fun z => hCR _ z (hPR.2.1 j hj))) (fun h => by cases h)
  have hPC := hP'
  refine W.eq (g2 := F0 m 1241 ls (.int ρ :: [])) rfl ?_
  refine lv_aload_n hx hb dL_law_1241 rfl (lv_at hl 3 rfl) ?_
  refine lv_aload_n hx hb dL_law_1242 rfl (lv_at hl 1 rfl) ?_
  refine lv_iload_n hx hb dL_law_1243 rfl (lv_at hl 0 rfl) ?_
  refine lv_iconst (v := 1) hx hb dL_law_1244 (by decide) ?_
  refine lv_iadd hx hb dL_law_1245 ?_
  refine lw_sld (i + 1) hx hb hX hbl hS (nI_add i 1) (by omega) hL dL_law_1246 ?_
  refine lw_callV (K := KR) (M := MR) (ci := 5) [.int (xs (i + 1))] [.int ρ] hx hb hml hown hts hUR hPR hS hAR hsR dL_law_1247 ml_L_151 im_X6_hangs (hTop MC MR hR).2.2.1 (hTop MC MR hR).2.2.2 rfl rfl (by decide) rfl rfl rfl rfl rfl (Nat.le_of_ble_eq_true rfl) hl.1 hk1 hk2 (fun r M' H' locs' hq hP' hkp hS => ?_)
  obtain ⟨rfl, hQR⟩ := hq
  have hPC := hPC.kept (H1 := H') (fun j hj => hkp _ ((hPC.1 j hj).lt) (fun z => hCR _ (hPC.2.1 j hj) z)) (fun h => by cases h)
  refine W.eq (g2 := F0 m 1250 ls (.int ρ :: [.int ρ])) rfl ?_
  refine lv_icmp_eq (tgt := 1411) hx hb dL_law_1250 (by decide) (fun _ => ?_) (fun z => absurd rfl z)
  exact kk _ _ _ _ ls hl ⟨hnx _ _ hQC hQR, hPC, hP', hS⟩
set_option maxRecDepth 100000 in
theorem law_far {p : Program} {l : Launch} {e : Env} {s : State} {m : MethodId} {below : List Frame} {meth : Method} {c : Code} {b L : Nat} {xs : Nat → Int32} {KC KR : xK} {Rel : xM → xM → Prop} {Q : State → Prop} {cs ss : Nat} (hk1 : cs ≤ 600000) (hk2 : ss ≤ 7302250) (hC : lwX p s m meth c b L xs KC KR) (hTop : ∀ MC MR, Rel MC MR → mS MC 0 = (0, 4) ∧ 0 < mN MC ∧ mS MR 0 = (0, 5) ∧ 0 < mN MR) (hF : Fc_far Rel) (i : Nat) (hi : i + 6 ≤ L) {MC MR : xM} {H : Heap} {locs : List Loc} (hst : lwS Rel s KC KR MC MR H locs) (ls : Array Slot) (hl : lv_has ls 4 [(3, .int (nI i)), (0, .ref b), (1, .ref (kB KC)), (2, .ref (kB KR))])
    (kk : ∀ (MC MR : xM) (H : Heap) (locs : List Loc) (ls : Array Slot), lv_has ls 4 [(3, .int (nI i)), (0, .ref b), (1, .ref (kB KC)), (2, .ref (kB KR))] → lwS Rel s KC KR MC MR H locs → W p l e room_1 s m #[Value.ref b] below meth c H locs cs ss Q (F0 m 1411 ls [])) : W p l e room_1 s m #[Value.ref b] below meth c H locs cs ss Q (F0 m 1255 ls []) := by
  obtain ⟨hx, hb, hml, hown, hts, hX, hbl, hL, hUC, hUR, hAC, hAR, hCR⟩ := hC
  obtain ⟨hR, hPC, hPR, hS⟩ := hst
  refine lv_aload_n hx hb dL_law_1255 rfl (lv_at hl 2 rfl) ?_
  refine lv_aload_n hx hb dL_law_1256 rfl (lv_at hl 1 rfl) ?_
  refine lv_iload_n hx hb dL_law_1257 rfl (lv_at hl 0 rfl) ?_
  refine lv_iconst (v := 1) hx hb dL_law_1258 (by decide) ?_
  refine lv_iadd hx hb dL_law_1259 ?_
  refine lw_sld (i + 1) hx hb hX hbl hS (nI_add i 1) (by omega) hL dL_law_1260 ?_
  refine lv_aload_n hx hb dL_law_1261 rfl (lv_at hl 1 rfl) ?_
  refine lv_iload_n hx hb dL_law_1262 rfl (lv_at hl 0 rfl) ?_
  refine lv_iconst (v := 2) hx hb dL_law_1263 (by decide) ?_
  refine lv_iadd hx hb dL_law_1264 ?_
  refine lw_sld (i + 2) hx hb hX hbl hS (nI_add i 2) (by omega) hL dL_law_1265 ?_
  obtain ⟨ρ, QC, QR, hsC, hsR, hnx⟩ := hF (xs (i + 1)) (xs (i + 2)) MC MR hR
  refine lw_callV (K := KC) (M := MC) (ci := 4) [.int (xs (i + 1)), .int (xs (i + 2))] [] hx hb hml hown hts hUC hPC hS hAC hsC dL_law_1266 ml_L_152 im_X5_far (hTop MC MR hR).1 (hTop MC MR hR).2.1 rfl rfl (by decide) rfl rfl rfl rfl rfl (Nat.le_of_ble_eq_true rfl) hl.1 hk1 hk2 (fun r M' H' locs' hq hP' hkp hS => ?_)
  obtain ⟨rfl, hQC⟩ := hq
  have hPR := hPR.kept (H1 := H') (fun j hj => hkp _ ((hPR.1 j hj).lt) (fun z => hCR _ z (hPR.2.1 j hj))) (fun h => by cases h)
  have hPC := hP'
  refine W.eq (g2 := F0 m 1269 ls (.int ρ :: [])) rfl ?_
  refine lv_aload_n hx hb dL_law_1269 rfl (lv_at hl 3 rfl) ?_
  refine lv_aload_n hx hb dL_law_1270 rfl (lv_at hl 1 rfl) ?_
  refine lv_iload_n hx hb dL_law_1271 rfl (lv_at hl 0 rfl) ?_
  refine lv_iconst (v := 1) hx hb dL_law_1272 (by decide) ?_
  refine lv_iadd hx hb dL_law_1273 ?_
  refine lw_sld (i + 1) hx hb hX hbl hS (nI_add i 1) (by omega) hL dL_law_1274 ?_
  refine lv_aload_n hx hb dL_law_1275 rfl (lv_at hl 1 rfl) ?_
  refine lv_iload_n hx hb dL_law_1276 rfl (lv_at hl 0 rfl) ?_
  refine lv_iconst (v := 2) hx hb dL_law_1277 (by decide) ?_
  refine lv_iadd hx hb dL_law_1278 ?_
  refine lw_sld (i + 2) hx hb hX hbl hS (nI_add i 2) (by omega) hL dL_law_1279 ?_
  refine lw_callV (K := KR) (M := MR) (ci := 5) [.int (xs (i + 1)), .int (xs (i + 2))] [.int ρ] hx hb hml hown hts hUR hPR hS hAR hsR dL_law_1280 ml_L_155 im_X6_far (hTop MC MR hR).2.2.1 (hTop MC MR hR).2.2.2 rfl rfl (by decide) rfl rfl rfl rfl rfl (Nat.le_of_ble_eq_true rfl) hl.1 hk1 hk2 (fun r M' H' locs' hq hP' hkp hS => ?_)
  obtain ⟨rfl, hQR⟩ := hq
  have hPC := hPC.kept (H1 := H') (fun j hj => hkp _ ((hPC.1 j hj).lt) (fun z => hCR _ (hPC.2.1 j hj) z)) (fun h => by cases h)
  refine W.eq (g2 := F0 m 1283 ls (.int ρ :: [.int ρ])) rfl ?_
  refine lv_icmp_eq (tgt := 1411) hx hb dL_law_1283 (by decide) (fun _ => ?_) (fun z => absurd rfl z)
  exact kk _ _ _ _ ls hl ⟨hnx _ _ hQC hQR, hPC, hP', hS⟩
set_option maxRecDepth 100000 in
theorem law_twin {p : Program} {l : Launch} {e : Env} {s : State} {m : MethodId} {below : List Frame} {meth : Method} {c : Code} {b L : Nat} {xs : Nat → Int32} {KC KR : xK} {Rel : xM → xM → Prop} {Q : State → Prop} {cs ss : Nat} (hk1 : cs ≤ 600000) (hk2 : ss ≤ 7302250) (hC : lwX p s m meth c b L xs KC KR) (hTop : ∀ MC MR, Rel MC MR → mS MC 0 = (0, 4) ∧ 0 < mN MC ∧ mS MR 0 = (0, 5) ∧ 0 < mN MR) (hF : Fc_twin Rel) (i : Nat) (hi : i + 6 ≤ L) {MC MR : xM} {H : Heap} {locs : List Loc} (hst : lwS Rel s KC KR MC MR H locs) (ls : Array Slot) (hl : lv_has ls 4 [(3, .int (nI i)), (0, .ref b), (1, .ref (kB KC)), (2, .ref (kB KR))])
    (kk : ∀ (MC MR : xM) (H : Heap) (locs : List Loc) (ls : Array Slot), lv_has ls 4 [(3, .int (nI i)), (0, .ref b), (1, .ref (kB KC)), (2, .ref (kB KR))] → lwS Rel s KC KR MC MR H locs → W p l e room_1 s m #[Value.ref b] below meth c H locs cs ss Q (F0 m 1411 ls [])) : W p l e room_1 s m #[Value.ref b] below meth c H locs cs ss Q (F0 m 1288 ls []) := by
  obtain ⟨hx, hb, hml, hown, hts, hX, hbl, hL, hUC, hUR, hAC, hAR, hCR⟩ := hC
  obtain ⟨hR, hPC, hPR, hS⟩ := hst
  refine lv_aload_n hx hb dL_law_1288 rfl (lv_at hl 2 rfl) ?_
  refine lv_aload_n hx hb dL_law_1289 rfl (lv_at hl 1 rfl) ?_
  refine lv_iload_n hx hb dL_law_1290 rfl (lv_at hl 0 rfl) ?_
  refine lv_iconst (v := 1) hx hb dL_law_1291 (by decide) ?_
  refine lv_iadd hx hb dL_law_1292 ?_
  refine lw_sld (i + 1) hx hb hX hbl hS (nI_add i 1) (by omega) hL dL_law_1293 ?_
  obtain ⟨ρ, QC, QR, hsC, hsR, hnx⟩ := hF (xs (i + 1)) MC MR hR
  refine lw_callV (K := KC) (M := MC) (ci := 4) [.int (xs (i + 1))] [] hx hb hml hown hts hUC hPC hS hAC hsC dL_law_1294 ml_L_156 im_X5_twin (hTop MC MR hR).1 (hTop MC MR hR).2.1 rfl rfl (by decide) rfl rfl rfl rfl rfl (Nat.le_of_ble_eq_true rfl) hl.1 hk1 hk2 (fun r M' H' locs' hq hP' hkp hS => ?_)
  obtain ⟨rfl, hQC⟩ := hq
  have hPR := hPR.kept (H1 := H') (fun j hj => hkp _ ((hPR.1 j hj).lt) (fun z => hCR _ z (hPR.2.1 j hj))) (fun h => by cases h)
  have hPC := hP'
  refine W.eq (g2 := F0 m 1297 ls (.int ρ :: [])) rfl ?_
  refine lv_aload_n hx hb dL_law_1297 rfl (lv_at hl 3 rfl) ?_
  refine lv_aload_n hx hb dL_law_1298 rfl (lv_at hl 1 rfl) ?_
  refine lv_iload_n hx hb dL_law_1299 rfl (lv_at hl 0 rfl) ?_
  refine lv_iconst (v := 1) hx hb dL_law_1300 (by decide) ?_
  refine lv_iadd hx hb dL_law_1301 ?_
  refine lw_sld (i + 1) hx hb hX hbl hS (nI_add i 1) (by omega) hL dL_law_1302 ?_
  refine lw_callV (K := KR) (M := MR) (ci := 5) [.int (xs (i + 1))] [.int ρ] hx hb hml hown hts hUR hPR hS hAR hsR dL_law_1303 ml_L_159 im_X6_twin (hTop MC MR hR).2.2.1 (hTop MC MR hR).2.2.2 rfl rfl (by decide) rfl rfl rfl rfl rfl (Nat.le_of_ble_eq_true rfl) hl.1 hk1 hk2 (fun r M' H' locs' hq hP' hkp hS => ?_)
  obtain ⟨rfl, hQR⟩ := hq
  have hPC := hPC.kept (H1 := H') (fun j hj => hkp _ ((hPC.1 j hj).lt) (fun z => hCR _ (hPC.2.1 j hj) z)) (fun h => by cases h)
  refine W.eq (g2 := F0 m 1306 ls (.int ρ :: [.int ρ])) rfl ?_
  refine lv_icmp_eq (tgt := 1411) hx hb dL_law_1306 (by decide) (fun _ => ?_) (fun z => absurd rfl z)
  exact kk _ _ _ _ ls hl ⟨hnx _ _ hQC hQR, hPC, hP', hS⟩
set_option maxRecDepth 100000 in
theorem law_called {p : Program} {l : Launch} {e : Env} {s : State} {m : MethodId} {below : List Frame} {meth : Method} {c : Code} {b L : Nat} {xs : Nat → Int32} {KC KR : xK} {Rel : xM → xM → Prop} {Q : State → Prop} {cs ss : Nat} (hk1 : cs ≤ 600000) (hk2 : ss ≤ 7302250) (hC : lwX p s m meth c b L xs KC KR) (hTop : ∀ MC MR, Rel MC MR → mS MC 0 = (0, 4) ∧ 0 < mN MC ∧ mS MR 0 = (0, 5) ∧ 0 < mN MR) (hF : Fc_called Rel) (i : Nat) (hi : i + 6 ≤ L) {MC MR : xM} {H : Heap} {locs : List Loc} (hst : lwS Rel s KC KR MC MR H locs) (ls : Array Slot) (hl : lv_has ls 4 [(3, .int (nI i)), (0, .ref b), (1, .ref (kB KC)), (2, .ref (kB KR))])
    (kk : ∀ (MC MR : xM) (H : Heap) (locs : List Loc) (ls : Array Slot), lv_has ls 4 [(3, .int (nI i)), (0, .ref b), (1, .ref (kB KC)), (2, .ref (kB KR))] → lwS Rel s KC KR MC MR H locs → W p l e room_1 s m #[Value.ref b] below meth c H locs cs ss Q (F0 m 1411 ls [])) : W p l e room_1 s m #[Value.ref b] below meth c H locs cs ss Q (F0 m 1311 ls []) := by
  obtain ⟨hx, hb, hml, hown, hts, hX, hbl, hL, hUC, hUR, hAC, hAR, hCR⟩ := hC
  obtain ⟨hR, hPC, hPR, hS⟩ := hst
  refine lv_aload_n hx hb dL_law_1311 rfl (lv_at hl 2 rfl) ?_
  refine lv_aload_n hx hb dL_law_1312 rfl (lv_at hl 1 rfl) ?_
  refine lv_iload_n hx hb dL_law_1313 rfl (lv_at hl 0 rfl) ?_
  refine lv_iconst (v := 1) hx hb dL_law_1314 (by decide) ?_
  refine lv_iadd hx hb dL_law_1315 ?_
  refine lw_sld (i + 1) hx hb hX hbl hS (nI_add i 1) (by omega) hL dL_law_1316 ?_
  obtain ⟨ρ, QC, QR, hsC, hsR, hnx⟩ := hF (xs (i + 1)) MC MR hR
  refine lw_callV (K := KC) (M := MC) (ci := 4) [.int (xs (i + 1))] [] hx hb hml hown hts hUC hPC hS hAC hsC dL_law_1317 ml_L_160 im_X5_called (hTop MC MR hR).1 (hTop MC MR hR).2.1 rfl rfl (by decide) rfl rfl rfl rfl rfl (Nat.le_of_ble_eq_true rfl) hl.1 hk1 hk2 (fun r M' H' locs' hq hP' hkp hS => ?_)
  obtain ⟨rfl, hQC⟩ := hq
  have hPR := hPR.kept (H1 := H') (fun j hj => hkp _ ((hPR.1 j hj).lt) (fun z => hCR _ z (hPR.2.1 j hj))) (fun h => by cases h)
  have hPC := hP'
  refine W.eq (g2 := F0 m 1320 ls (.long ρ :: [])) rfl ?_
  refine lv_aload_n hx hb dL_law_1320 rfl (lv_at hl 3 rfl) ?_
  refine lv_aload_n hx hb dL_law_1321 rfl (lv_at hl 1 rfl) ?_
  refine lv_iload_n hx hb dL_law_1322 rfl (lv_at hl 0 rfl) ?_
  refine lv_iconst (v := 1) hx hb dL_law_1323 (by decide) ?_
  refine lv_iadd hx hb dL_law_1324 ?_
  refine lw_sld (i + 1) hx hb hX hbl hS (nI_add i 1) (by omega) hL dL_law_1325 ?_
  refine lw_callV (K := KR) (M := MR) (ci := 5) [.int (xs (i + 1))] [.long ρ] hx hb hml hown hts hUR hPR hS hAR hsR dL_law_1326 ml_L_164 im_X6_called (hTop MC MR hR).2.2.1 (hTop MC MR hR).2.2.2 rfl rfl (by decide) rfl rfl rfl rfl rfl (Nat.le_of_ble_eq_true rfl) hl.1 hk1 hk2 (fun r M' H' locs' hq hP' hkp hS => ?_)
  obtain ⟨rfl, hQR⟩ := hq
  have hPC := hPC.kept (H1 := H') (fun j hj => hkp _ ((hPC.1 j hj).lt) (fun z => hCR _ (hPC.2.1 j hj) z)) (fun h => by cases h)
  refine W.eq (g2 := F0 m 1329 ls (.long ρ :: [.long ρ])) rfl ?_
  refine W.lcmp hx hb dL_law_1329 ?_
  refine lv_if_eq (tgt := 1411) hx hb dL_law_1330 (by decide) (fun _ => ?_) (fun z => absurd ((lg_cmp_eq ρ ρ).mpr rfl) z)
  exact kk _ _ _ _ ls hl ⟨hnx _ _ hQC hQR, hPC, hP', hS⟩
set_option maxRecDepth 100000 in
theorem law_named {p : Program} {l : Launch} {e : Env} {s : State} {m : MethodId} {below : List Frame} {meth : Method} {c : Code} {b L : Nat} {xs : Nat → Int32} {KC KR : xK} {Rel : xM → xM → Prop} {Q : State → Prop} {cs ss : Nat} (hk1 : cs ≤ 600000) (hk2 : ss ≤ 7302250) (hC : lwX p s m meth c b L xs KC KR) (hTop : ∀ MC MR, Rel MC MR → mS MC 0 = (0, 4) ∧ 0 < mN MC ∧ mS MR 0 = (0, 5) ∧ 0 < mN MR) (hF : Fc_named Rel) (i : Nat) (hi : i + 6 ≤ L) {MC MR : xM} {H : Heap} {locs : List Loc} (hst : lwS Rel s KC KR MC MR H locs) (ls : Array Slot) (hl : lv_has ls 4 [(3, .int (nI i)), (0, .ref b), (1, .ref (kB KC)), (2, .ref (kB KR))])
    (kk : ∀ (MC MR : xM) (H : Heap) (locs : List Loc) (ls : Array Slot), lv_has ls 4 [(3, .int (nI i)), (0, .ref b), (1, .ref (kB KC)), (2, .ref (kB KR))] → lwS Rel s KC KR MC MR H locs → W p l e room_1 s m #[Value.ref b] below meth c H locs cs ss Q (F0 m 1411 ls [])) : W p l e room_1 s m #[Value.ref b] below meth c H locs cs ss Q (F0 m 1335 ls []) := by
  obtain ⟨hx, hb, hml, hown, hts, hX, hbl, hL, hUC, hUR, hAC, hAR, hCR⟩ := hC
  obtain ⟨hR, hPC, hPR, hS⟩ := hst
  refine lv_aload_n hx hb dL_law_1335 rfl (lv_at hl 2 rfl) ?_
  refine lv_aload_n hx hb dL_law_1336 rfl (lv_at hl 1 rfl) ?_
  refine lv_iload_n hx hb dL_law_1337 rfl (lv_at hl 0 rfl) ?_
  refine lv_iconst (v := 1) hx hb dL_law_1338 (by decide) ?_
  refine lv_iadd hx hb dL_law_1339 ?_
  refine lw_sld (i + 1) hx hb hX hbl hS (nI_add i 1) (by omega) hL dL_law_1340 ?_
  refine lv_i2l hx hb dL_law_1341 rfl ?_
  refine lv_bipush (v := 32) hx hb dL_law_1342 (by decide) ?_
  refine lv_lshl hx hb dL_law_1344 rfl ?_
  refine lv_aload_n hx hb dL_law_1345 rfl (lv_at hl 1 rfl) ?_
  refine lv_iload_n hx hb dL_law_1346 rfl (lv_at hl 0 rfl) ?_
  refine lv_iconst (v := 2) hx hb dL_law_1347 (by decide) ?_
  refine lv_iadd hx hb dL_law_1348 ?_
  refine lw_sld (i + 2) hx hb hX hbl hS (nI_add i 2) (by omega) hL dL_law_1349 ?_
  refine lv_i2l hx hb dL_law_1350 rfl ?_
  refine lv_ldc2 hx hb hown (hts _ kc_L_13) dL_law_1351 ?_
  refine lv_land hx hb dL_law_1354 ?_
  refine lv_lor hx hb dL_law_1355 ?_
  obtain ⟨ρ, QC, QR, hsC, hsR, hnx⟩ := hF (((xs (i + 1)).toInt64 <<< ((Int32.toInt64 32) &&& 63)) ||| (((xs (i + 2)).toInt64) &&& (4294967295))) MC MR hR
  refine lw_callV (K := KC) (M := MC) (ci := 4) [.long (((xs (i + 1)).toInt64 <<< ((Int32.toInt64 32) &&& 63)) ||| (((xs (i + 2)).toInt64) &&& (4294967295)))] [] hx hb hml hown hts hUC hPC hS hAC hsC dL_law_1356 ml_L_165 im_X5_named (hTop MC MR hR).1 (hTop MC MR hR).2.1 rfl rfl (by decide) rfl rfl rfl rfl rfl (Nat.le_of_ble_eq_true rfl) hl.1 hk1 hk2 (fun r M' H' locs' hq hP' hkp hS => ?_)
  obtain ⟨rfl, hQC⟩ := hq
  have hPR := hPR.kept (H1 := H') (fun j hj => hkp _ ((hPR.1 j hj).lt) (fun z => hCR _ z (hPR.2.1 j hj))) (fun h => by cases h)
  have hPC := hP'
  refine W.eq (g2 := F0 m 1359 ls (.int ρ :: [])) rfl ?_
  refine lv_aload_n hx hb dL_law_1359 rfl (lv_at hl 3 rfl) ?_
  refine lv_aload_n hx hb dL_law_1360 rfl (lv_at hl 1 rfl) ?_
  refine lv_iload_n hx hb dL_law_1361 rfl (lv_at hl 0 rfl) ?_
  refine lv_iconst (v := 1) hx hb dL_law_1362 (by decide) ?_
  refine lv_iadd hx hb dL_law_1363 ?_
  refine lw_sld (i + 1) hx hb hX hbl hS (nI_add i 1) (by omega) hL dL_law_1364 ?_
  refine lv_i2l hx hb dL_law_1365 rfl ?_
  refine lv_bipush (v := 32) hx hb dL_law_1366 (by decide) ?_
  refine lv_lshl hx hb dL_law_1368 rfl ?_
  refine lv_aload_n hx hb dL_law_1369 rfl (lv_at hl 1 rfl) ?_
  refine lv_iload_n hx hb dL_law_1370 rfl (lv_at hl 0 rfl) ?_
  refine lv_iconst (v := 2) hx hb dL_law_1371 (by decide) ?_
  refine lv_iadd hx hb dL_law_1372 ?_
  refine lw_sld (i + 2) hx hb hX hbl hS (nI_add i 2) (by omega) hL dL_law_1373 ?_
  refine lv_i2l hx hb dL_law_1374 rfl ?_
  refine lv_ldc2 hx hb hown (hts _ kc_L_13) dL_law_1375 ?_
  refine lv_land hx hb dL_law_1378 ?_
  refine lv_lor hx hb dL_law_1379 ?_
  refine lw_callV (K := KR) (M := MR) (ci := 5) [.long (((xs (i + 1)).toInt64 <<< ((Int32.toInt64 32) &&& 63)) ||| (((xs (i + 2)).toInt64) &&& (4294967295)))] [.int ρ] hx hb hml hown hts hUR hPR hS hAR hsR dL_law_1380 ml_L_169 im_X6_named (hTop MC MR hR).2.2.1 (hTop MC MR hR).2.2.2 rfl rfl (by decide) rfl rfl rfl rfl rfl (Nat.le_of_ble_eq_true rfl) hl.1 hk1 hk2 (fun r M' H' locs' hq hP' hkp hS => ?_)
  obtain ⟨rfl, hQR⟩ := hq
  have hPC := hPC.kept (H1 := H') (fun j hj => hkp _ ((hPC.1 j hj).lt) (fun z => hCR _ (hPC.2.1 j hj) z)) (fun h => by cases h)
  refine W.eq (g2 := F0 m 1383 ls (.int ρ :: [.int ρ])) rfl ?_
  refine lv_icmp_eq (tgt := 1411) hx hb dL_law_1383 (by decide) (fun _ => ?_) (fun z => absurd rfl z)
  exact kk _ _ _ _ ls hl ⟨hnx _ _ hQC hQR, hPC, hP', hS⟩
set_option maxRecDepth 100000 in
theorem law_count {p : Program} {l : Launch} {e : Env} {s : State} {m : MethodId} {below : List Frame} {meth : Method} {c : Code} {b L : Nat} {xs : Nat → Int32} {KC KR : xK} {Rel : xM → xM → Prop} {Q : State → Prop} {cs ss : Nat} (hk1 : cs ≤ 600000) (hk2 : ss ≤ 7302250) (hC : lwX p s m meth c b L xs KC KR) (hTop : ∀ MC MR, Rel MC MR → mS MC 0 = (0, 4) ∧ 0 < mN MC ∧ mS MR 0 = (0, 5) ∧ 0 < mN MR) (hF : Fc_count Rel) (i : Nat) (hi : i + 6 ≤ L) {MC MR : xM} {H : Heap} {locs : List Loc} (hst : lwS Rel s KC KR MC MR H locs) (ls : Array Slot) (hl : lv_has ls 4 [(3, .int (nI i)), (0, .ref b), (1, .ref (kB KC)), (2, .ref (kB KR))])
    (kk : ∀ (MC MR : xM) (H : Heap) (locs : List Loc) (ls : Array Slot), lv_has ls 4 [(3, .int (nI i)), (0, .ref b), (1, .ref (kB KC)), (2, .ref (kB KR))] → lwS Rel s KC KR MC MR H locs → W p l e room_1 s m #[Value.ref b] below meth c H locs cs ss Q (F0 m 1411 ls [])) : W p l e room_1 s m #[Value.ref b] below meth c H locs cs ss Q (F0 m 1388 ls []) := by
  obtain ⟨hx, hb, hml, hown, hts, hX, hbl, hL, hUC, hUR, hAC, hAR, hCR⟩ := hC
  obtain ⟨hR, hPC, hPR, hS⟩ := hst
  refine lv_aload_n hx hb dL_law_1388 rfl (lv_at hl 2 rfl) ?_
  refine lv_aload_n hx hb dL_law_1389 rfl (lv_at hl 1 rfl) ?_
  refine lv_iload_n hx hb dL_law_1390 rfl (lv_at hl 0 rfl) ?_
  refine lv_iconst (v := 1) hx hb dL_law_1391 (by decide) ?_
  refine lv_iadd hx hb dL_law_1392 ?_
  refine lw_sld (i + 1) hx hb hX hbl hS (nI_add i 1) (by omega) hL dL_law_1393 ?_
  obtain ⟨ρ, QC, QR, hsC, hsR, hnx⟩ := hF (xs (i + 1)) MC MR hR
  refine lw_callV (K := KC) (M := MC) (ci := 4) [.int (xs (i + 1))] [] hx hb hml hown hts hUC hPC hS hAC hsC dL_law_1394 ml_L_170 im_X5_count (hTop MC MR hR).1 (hTop MC MR hR).2.1 rfl rfl (by decide) rfl rfl rfl rfl rfl (Nat.le_of_ble_eq_true rfl) hl.1 hk1 hk2 (fun r M' H' locs' hq hP' hkp hS => ?_)
  obtain ⟨rfl, hQC⟩ := hq
  have hPR := hPR.kept (H1 := H') (fun j hj => hkp _ ((hPR.1 j hj).lt) (fun z => hCR _ z (hPR.2.1 j hj))) (fun h => by cases h)
  have hPC := hP'
  refine W.eq (g2 := F0 m 1397 ls (.int ρ :: [])) rfl ?_
  refine lv_aload_n hx hb dL_law_1397 rfl (lv_at hl 3 rfl) ?_
  refine lv_aload_n hx hb dL_law_1398 rfl (lv_at hl 1 rfl) ?_
  refine lv_iload_n hx hb dL_law_1399 rfl (lv_at hl 0 rfl) ?_
  refine lv_iconst (v := 1) hx hb dL_law_1400 (by decide) ?_
  refine lv_iadd hx hb dL_law_1401 ?_
  refine lw_sld (i + 1) hx hb hX hbl hS (nI_add i 1) (by omega) hL dL_law_1402 ?_
  refine lw_callV (K := KR) (M := MR) (ci := 5) [.int (xs (i + 1))] [.int ρ] hx hb hml hown hts hUR hPR hS hAR hsR dL_law_1403 ml_L_173 im_X6_count (hTop MC MR hR).2.2.1 (hTop MC MR hR).2.2.2 rfl rfl (by decide) rfl rfl rfl rfl rfl (Nat.le_of_ble_eq_true rfl) hl.1 hk1 hk2 (fun r M' H' locs' hq hP' hkp hS => ?_)
  obtain ⟨rfl, hQR⟩ := hq
  have hPC := hPC.kept (H1 := H') (fun j hj => hkp _ ((hPC.1 j hj).lt) (fun z => hCR _ (hPC.2.1 j hj) z)) (fun h => by cases h)
  refine W.eq (g2 := F0 m 1406 ls (.int ρ :: [.int ρ])) rfl ?_
  refine lv_icmp_eq (tgt := 1411) hx hb dL_law_1406 (by decide) (fun _ => ?_) (fun z => absurd rfl z)
  exact kk _ _ _ _ ls hl ⟨hnx _ _ hQC hQR, hPC, hP', hS⟩
