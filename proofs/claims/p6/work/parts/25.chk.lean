/-! ===== one check a class, one check a method ===== -/
def g_DE (f : Nat) : XD := j_dec (g_CC f)
def g_LK (f : Nat) : XK := q_lk (g_lt (g_c f))
def g_LP (f : Nat) : XK := q_lk (g_pt (g_c f) (g_in f))
def gdK (f : Nat) : Bool := okK g_M g_THR g_RZ g_HN (g_DE f) (g_LK f) (g_LP f) f
def gdH (f : Nat) : Bool := okH g_Y g_CC g_RT g_M g_RZ f (g_ps f) && decide ((g_Y f).cls = g_cn (g_c f)) && (!g_in f || decide ((g_Y f).name = "<init>"))
def gcL (c : Nat) : Bool := (g_lt c).flatten.all (fun e => okF g_cl g_ck g_wn (g_cn c) e && okM g_cl g_Y g_RT (m_P g_M) (g_cn c) e)
def gcP (c : Nat) (b : Bool) : Bool := (g_pt c b).flatten.all (okP g_cl g_ck g_wn (g_cn c) b)
