theorem rn_sound_WP {l : Launch} {D : va_G} {A : Nat → Prop} {y pc : Nat} {L st : List rn_V} {M : rn_M} {Q : rn_Q} (h : rn_WP y pc L st M Q) : rn_Snd l D A y pc L st M Q := h _ rn_Snd_mon rn_sound
