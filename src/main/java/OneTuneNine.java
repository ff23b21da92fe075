/**
 * One tune, nine behind one another: voices of kinds sing one tune of notes one behind the other.
 * The document that this class keeps is told in the README.
 */
public final class OneTuneNine {
  private static final int NOBODY = -1;
  private static final int OTHER = -2;
  private static final int STATE = -3;
  private static final int BELOW = -4;
  private static final int ROOM = -6;
  private static final int REFUSAL_KINDS = 6;
  private static final int REFUSED_SOUND = 1000000000;
  private static final long REFUSED_LONG = 4000000000000000000L;

  private static final int NONE = -9;
  private static final int SILENCE = 999;

  private static final int MOST_NOTES = 12;
  private static final int MOST_PITCH = 9;
  private static final int MOST_LENGTH = 3;
  private static final int MOST_VOICES = 6;
  private static final int MOST_ENTRY = 60;
  private static final int MOST_HIGH = 9;
  private static final int MOST_ROUNDS = 4;
  private static final int MOST_STEP = 2;
  private static final int MOST_LAW = 127;
  private static final int MOST_BEAT = 400;
  private static final int MOST_LETTER = 255;
  private static final int MOST_LETTERS = 80;
  private static final int MOST_HEARD = 12;
  private static final int MOST_NUMBER = 60;
  private static final int MOST_SEEDS = 20;
  private static final int MOST_AGREEING = 12;
  private static final int TRIED_ENTRIES = 31;
  /**
   * A way begins where a note of either voice begins. The most begin where a slow voice meets one that is
   * not: that one's 13 notes (with the one thought of) in 4 rounds, while 2 slow rounds go by. Two that
   * both are slow, or both not, come round again with each round, so they meet in at most 26.
   */
  private static final int MOST_WAYS_OF_TWO = 4 * (MOST_NOTES + 1) + 2 * (MOST_NOTES + 1);
  private static final int MOST_PAIRS = MOST_VOICES * (MOST_VOICES - 1) / 2;
  private static final int MOST_WAYS = MOST_PAIRS * MOST_WAYS_OF_TWO;

  private static final int STEPS = 7;
  private static final int LAW_AT_FIRST = 53;

  private static final int VOICE = 0;
  private static final int BACKWARD = 1;
  private static final int TURNED = 2;
  private static final int SLOW = 3;
  private static final int FIFTH = 4;
  private static final int CRAB = 5;
  private static final String KIND_LETTERS = "vbtsfx";

  private final Canon told = new Canon();
  private final Canon kept = new Canon();
  private boolean isKept = false;
  private final Mind mind = new Mind();
  private final Walks walks = new Walks();
  private final Text text = new Text();
  private final Row heard = new Row(MOST_HEARD);
  private final Row refusals = new Row(REFUSAL_KINDS);

  public OneTuneNine() {
    for (int i = 0; i < REFUSAL_KINDS; i++) {
      refusals.add(0);
    }
  }

  public int letter(int c) {
    int no = outside(c, 0, MOST_LETTER);
    if (no == 0 && text.size() >= MOST_LETTERS) {
      no = ROOM;
    }
    return no != 0 ? refuse(no) : text.add(c);
  }

  public int canon() {
    int answer = text.formFault();
    if (answer == 0) {
      // It is told to a copy, because a fault in a late statement takes back the early ones.
      Canon trial = mind.take(told);
      answer = text.tellAll(trial);
      if (answer > 0) {
        told.copyFrom(trial);
      }
    }
    text.clear();
    return answer;
  }

  public int note(int note, int what) {
    if (!told.tune.has(note)) {
      return refuse(NOBODY);
    }
    switch (what) {
      case 0: return told.tune.pitchOf(note);
      case 1: return told.tune.lengthOf(note);
      case 2: return told.tune.startOf(note);
      default: return refuse(OTHER);
    }
  }

  public int voice(int voice, int what) {
    if (!told.hasVoice(voice)) {
      return refuse(NOBODY);
    }
    switch (what) {
      case 0: return told.kindOf(voice);
      case 1: return told.entryOf(voice);
      case 2: return told.highOf(voice);
      case 3: return told.roundBeats(voice);
      case 4: return told.stillFrom(voice);
      default: return refuse(OTHER);
    }
  }

  public int pitch(int note, int v) {
    int no = told.tune.has(note) ? outside(v, 0, MOST_PITCH) : NOBODY;
    if (no != 0) {
      return refuse(no);
    }
    int was = told.tune.pitchOf(note);
    told.tune.setPitch(note, v);
    return was;
  }

  public int enter(int voice, int v) {
    int no = told.hasVoice(voice) ? outside(v, 0, MOST_ENTRY) : NOBODY;
    if (no != 0) {
      return refuse(no);
    }
    int was = told.entryOf(voice);
    told.setEntry(voice, v);
    return was;
  }

  public int rounds(int v) {
    int no = outside(v, 1, MOST_ROUNDS);
    if (no != 0) {
      return refuse(no);
    }
    int was = told.rounds;
    told.rounds = v;
    return was;
  }

  public int step(int v) {
    int no = outside(v, 0, MOST_STEP);
    if (no != 0) {
      return refuse(no);
    }
    int was = told.step;
    told.step = v;
    return was;
  }

  public int law(int v) {
    int no = outside(v, 0, MOST_LAW);
    if (no != 0) {
      return refuse(no);
    }
    int was = told.law;
    told.law = v;
    return was;
  }

  public int sound(int voice, int beat) {
    int no = told.hasVoice(voice) ? outside(beat, 0, MOST_BEAT) : NOBODY;
    return no != 0 ? REFUSED_SOUND - refuse(no) : told.soundOf(voice, beat);
  }

  public int ill(int beat) {
    int no = outside(beat, 0, MOST_BEAT);
    return no != 0 ? refuse(no) : told.illsAt(beat);
  }

  public int first(int what) {
    if (what != 0 && what != 1) {
      return refuse(OTHER);
    }
    int beat = told.firstIllBeat();
    return what == 0 || beat == NONE ? beat : told.firstIllPair(beat);
  }

  public int allIll() {
    return told.illsInAll();
  }

  public int entries(int kind, int high) {
    int no = kind < VOICE || kind > CRAB ? OTHER : outside(high, 0, MOST_HIGH);
    return no != 0 ? refuse(no) : mind.agreeingEntries(told, kind, high);
  }

  public int added() {
    return mind.addablePitches(told);
  }

  public int silent() {
    return told.voicesInAllIlls();
  }

  public int changed(int what) {
    switch (what) {
      case 0: return mind.fewestChanges(told);
      case 1: return mind.firstChange(told);
      default: return refuse(OTHER);
    }
  }

  public int better() {
    return mind.leastIlls(told);
  }

  public int mirror() {
    return told.tune.isMirror() ? 1 : 0;
  }

  public long agreeing(int n, int e) {
    int no = Math.min(n, e) < 1 ? BELOW : outside(Math.max(n, e), 1, MOST_AGREEING);
    return no != 0 ? REFUSED_LONG - refuse(no) : walks.tunesAgreeing(n, e, told.law);
  }

  public int range(int voice, int what) {
    int no = !told.hasVoice(voice) ? NOBODY : what != 0 && what != 1 ? OTHER : 0;
    if (no != 0) {
      return REFUSED_SOUND - refuse(no);
    }
    return told.farthestSound(voice, what == 1);
  }

  public int stop(int beat) {
    int no = outside(beat, 0, MOST_BEAT);
    return no != 0 ? refuse(no) : told.stillIfStoppedAt(beat);
  }

  public int unison() {
    return told.unisonBeats();
  }

  public int row(int v) {
    int no = outside(v, 0, MOST_NUMBER);
    if (no == 0 && heard.size() >= MOST_HEARD) {
      no = ROOM;
    }
    if (no != 0) {
      return refuse(no);
    }
    heard.add(v);
    return heard.size();
  }

  public int who(int beat) {
    int no = outside(beat, 0, MOST_BEAT);
    if (no != 0) {
      return refuse(no);
    }
    int bits = 0;
    for (int voice = 0; voice < told.voices(); voice++) {
      if (told.firstNotHeard(voice, beat, heard) == NONE) {
        bits |= 1 << voice;
      }
    }
    return bits;
  }

  public int judge(int voice, int beat) {
    int no = told.hasVoice(voice) ? outside(beat, 0, MOST_BEAT) : NOBODY;
    if (no != 0) {
      return refuse(no);
    }
    int answer = told.firstNotHeard(voice, beat, heard);
    heard.clear();
    return answer;
  }

  public int seeds(int n, int z) {
    int no = outside(n, 1, MOST_SEEDS);
    return no != 0 ? refuse(no) : mind.wellDraws(told, n, z);
  }

  public int image() {
    kept.copyFrom(told);
    isKept = true;
    return told.tune.notes();
  }

  public int on() {
    if (!isKept) {
      return refuse(STATE);
    }
    told.copyFrom(kept);
    return told.tune.notes();
  }

  public int count(int what) {
    switch (what) {
      case 0: return told.tune.notes();
      case 1: return told.voices();
      case 2: return told.tune.beats;
      case 3: return told.end();
      case 4: return told.rounds;
      case 5: return told.step;
      case 6: return told.law;
      case 7: return heard.size();
      case 8: return text.size();
      default: return what >= 11 && what <= 16 ? refusals.get(what - 11) : NONE;
    }
  }

  /** Which refusal a number outside its bounds calls for; 0 if it is inside. */
  private static int outside(int v, int least, int most) {
    return v < least ? BELOW : v > most ? ROOM : 0;
  }

  private static boolean soundsWell(int law, int difference) {
    return (law >> (Math.abs(difference) % STEPS) & 1) == 1;
  }

  private int refuse(int number) {
    int place = -1 - number;
    refusals.set(place, refusals.get(place) + 1);
    return number;
  }

  /** A row of numbers with a fixed room, which looks at every index, so that those who ask need not. */
  private static final class Row {
    private final int[] cells;
    private int used = 0;

    Row(int room) {
      cells = new int[room < 0 ? 0 : room];
    }

    int size() {
      return used;
    }

    boolean has(int place) {
      return place >= 0 && place < used && place < cells.length;
    }

    int get(int place) {
      return place >= 0 && place < used && place < cells.length ? cells[place] : 0;
    }

    void set(int place, int v) {
      if (place >= 0 && place < used && place < cells.length) {
        cells[place] = v;
      }
    }

    void add(int v) {
      if (used >= 0 && used < cells.length) {
        cells[used] = v;
        used++;
      }
    }

    void clear() {
      used = 0;
    }

    void copyFrom(Row other) {
      clear();
      if (other != null) {
        for (int i = 0; i < other.size(); i++) {
          add(other.get(i));
        }
      }
    }
  }

  /** The notes, with room for the one that is only thought of. */
  private static final class Tune {
    private final Row pitches = new Row(MOST_NOTES + 1);
    private final Row lengths = new Row(MOST_NOTES + 1);
    private final Row noteOfBeat = new Row(MOST_NOTES * MOST_LENGTH + 1);
    private int beats = 0;

    int notes() {
      return pitches.size();
    }

    boolean has(int note) {
      return pitches.has(note);
    }

    int pitchOf(int note) {
      return pitches.get(note);
    }

    int lengthOf(int note) {
      return lengths.get(note);
    }

    int startOf(int note) {
      int start = 0;
      for (int i = 0; i < note && i < lengths.size(); i++) {
        start += lengths.get(i);
      }
      return start;
    }

    int noteAt(int beat) {
      return noteOfBeat.get(beat);
    }

    int plainAt(int beat) {
      return pitches.get(noteOfBeat.get(beat));
    }

    void setPitch(int note, int v) {
      pitches.set(note, v);
    }

    void add(int pitch, int length) {
      int note = pitches.size();
      pitches.add(pitch);
      lengths.add(length);
      for (int i = 0; i < length && i < MOST_LENGTH; i++) {
        noteOfBeat.add(note);
      }
      beats = noteOfBeat.size();
    }

    boolean isMirror() {
      int last = beats - 1;
      for (int j = 0; j < last - j; j++) {
        if (plainAt(j) != plainAt(last - j)) {
          return false;
        }
      }
      return true;
    }

    void copyFrom(Tune other) {
      if (other != null) {
        pitches.copyFrom(other.pitches);
        lengths.copyFrom(other.lengths);
        noteOfBeat.copyFrom(other.noteOfBeat);
        beats = other.beats;
      }
    }
  }

  /** All that is told: the tune, the voices (with room for one thought of), rounds, step and law. */
  private static final class Canon {
    private final Tune tune = new Tune();
    private final Row kinds = new Row(MOST_VOICES + 1);
    private final Row starts = new Row(MOST_VOICES + 1);
    private final Row highs = new Row(MOST_VOICES + 1);
    private final Row singers = new Row(MOST_VOICES + 1);
    private final Row sounds = new Row(MOST_VOICES + 1);
    private int rounds = 1;
    private int step = 0;
    private int law = LAW_AT_FIRST;

    void copyFrom(Canon other) {
      if (other != null) {
        tune.copyFrom(other.tune);
        kinds.copyFrom(other.kinds);
        starts.copyFrom(other.starts);
        highs.copyFrom(other.highs);
        rounds = other.rounds;
        step = other.step;
        law = other.law;
      }
    }

    int voices() {
      return kinds.size();
    }

    boolean hasVoice(int voice) {
      return kinds.has(voice);
    }

    int kindOf(int voice) {
      return kinds.get(voice);
    }

    int entryOf(int voice) {
      return starts.get(voice);
    }

    int highOf(int voice) {
      return highs.get(voice);
    }

    void setEntry(int voice, int beat) {
      starts.set(voice, beat);
    }

    void addVoice(int kind, int entry, int high) {
      kinds.add(kind);
      starts.add(entry);
      highs.add(high);
    }

    /** Whether the note could come. */
    boolean tellNote(int pitch, int length) {
      if (length < 1 || length > MOST_LENGTH || tune.notes() >= MOST_NOTES) {
        return false;
      }
      tune.add(pitch, length);
      return true;
    }

    /** Whether the voice could come. */
    boolean tellVoice(int kind, int entry, int high) {
      if (entry > MOST_ENTRY || voices() >= MOST_VOICES) {
        return false;
      }
      addVoice(kind, entry, high);
      return true;
    }

    /** Whether there can be so many rounds, so far apart. */
    boolean tellRounds(int many, int apart) {
      if (many < 1 || many > MOST_ROUNDS || apart > MOST_STEP) {
        return false;
      }
      rounds = many;
      step = apart;
      return true;
    }

    /** Whether there is such a difference; told again, it sounds well no more. */
    boolean tellWell(int difference) {
      if (difference >= STEPS) {
        return false;
      }
      law ^= 1 << difference;
      return true;
    }

    int roundBeats(int voice) {
      return kinds.get(voice) == SLOW ? 2 * tune.beats : tune.beats;
    }

    int stillFrom(int voice) {
      return starts.get(voice) + rounds * roundBeats(voice);
    }

    int end() {
      int last = 0;
      for (int voice = 0; voice < voices() && tune.beats > 0; voice++) {
        last = Math.max(last, stillFrom(voice));
      }
      return last;
    }

    /** The note that a voice sings at a beat; -1 if it sings none. */
    int noteSung(int voice, int beat) {
      int round = roundBeats(voice);
      int gone = beat - starts.get(voice);
      if (round <= 0 || gone < 0 || gone >= rounds * round) {
        return -1;
      }
      int j = gone % round;
      switch (kinds.get(voice)) {
        case BACKWARD:
        case CRAB: return tune.noteAt(tune.beats - 1 - j);
        case SLOW: return tune.noteAt(j / 2);
        default: return tune.noteAt(j);
      }
    }

    boolean isTurned(int voice) {
      int kind = kinds.get(voice);
      return kind == TURNED || kind == CRAB;
    }

    /** How far above its note, or above its note turned over, a voice sounds at a beat at which it sings. */
    int lift(int voice, int beat) {
      int round = roundBeats(voice);
      int past = round > 0 ? (beat - starts.get(voice)) / round : 0;
      int byKind = kinds.get(voice) == FIFTH ? 4 : 0;
      return byKind + highs.get(voice) + step * past;
    }

    int soundOf(int voice, int beat) {
      int note = noteSung(voice, beat);
      if (note < 0) {
        return SILENCE;
      }
      int pitch = tune.pitchOf(note);
      int sung = isTurned(voice) ? 2 * tune.pitchOf(0) - pitch : pitch;
      return sung + lift(voice, beat);
    }

    /** Finds who sings at a beat, in the order of the voices; most beats have fewer singers than voices. */
    private void listen(int beat) {
      singers.clear();
      sounds.clear();
      for (int voice = 0; voice < voices(); voice++) {
        int sound = soundOf(voice, beat);
        if (sound != SILENCE) {
          singers.add(voice);
          sounds.add(sound);
        }
      }
    }

    /** Whether two singers of the beat listened to do not agree. */
    private boolean clash(int one, int other) {
      return !soundsWell(law, sounds.get(one) - sounds.get(other));
    }

    int illsAt(int beat) {
      listen(beat);
      int ills = 0;
      for (int one = 0; one < singers.size(); one++) {
        for (int other = one + 1; other < singers.size(); other++) {
          if (clash(one, other)) {
            ills++;
          }
        }
      }
      return ills;
    }

    int illsInAll() {
      int ills = 0;
      int last = end();
      for (int beat = 0; beat < last; beat++) {
        ills += illsAt(beat);
      }
      return ills;
    }

    int firstIllBeat() {
      int last = end();
      for (int beat = 0; beat < last; beat++) {
        if (illsAt(beat) > 0) {
          return beat;
        }
      }
      return NONE;
    }

    int firstIllPair(int beat) {
      listen(beat);
      for (int one = 0; one < singers.size(); one++) {
        for (int other = one + 1; other < singers.size(); other++) {
          if (clash(one, other)) {
            return 10 * singers.get(one) + singers.get(other);
          }
        }
      }
      return NONE;
    }

    /** Voices (bits) that are one of the two in all pairs that are ill. */
    int voicesInAllIlls() {
      int bits = (1 << voices()) - 1;
      int last = end();
      for (int beat = 0; beat < last; beat++) {
        listen(beat);
        for (int one = 0; one < singers.size(); one++) {
          for (int other = one + 1; other < singers.size(); other++) {
            if (clash(one, other)) {
              bits &= 1 << singers.get(one) | 1 << singers.get(other);
            }
          }
        }
      }
      return bits;
    }

    /** Whether the last voice agrees with all the others at all beats. */
    boolean lastAgreesWithAll() {
      int voice = voices() - 1;
      int last = stillFrom(voice);
      for (int beat = starts.get(voice); beat < last; beat++) {
        listen(beat);
        int mine = singers.size() - 1;
        for (int other = 0; other < mine; other++) {
          if (clash(mine, other)) {
            return false;
          }
        }
      }
      return true;
    }

    int farthestSound(int voice, boolean up) {
      int farthest = SILENCE;
      int last = stillFrom(voice);
      for (int beat = starts.get(voice); beat < last; beat++) {
        int sounds = soundOf(voice, beat);
        if (farthest == SILENCE) {
          farthest = sounds;
        } else {
          farthest = up ? Math.max(farthest, sounds) : Math.min(farthest, sounds);
        }
      }
      return farthest;
    }

    int stillIfStoppedAt(int beat) {
      int last = 0;
      for (int voice = 0; voice < voices(); voice++) {
        int round = roundBeats(voice);
        int gone = beat - starts.get(voice);
        if (round > 0 && gone >= 0) {
          int sung = Math.min(gone / round + 1, rounds);
          last = Math.max(last, starts.get(voice) + sung * round);
        }
      }
      return last;
    }

    int unisonBeats() {
      int many = 0;
      int last = end();
      for (int beat = 0; beat < last; beat++) {
        listen(beat);
        if (isUnison()) {
          many++;
        }
      }
      return many;
    }

    private boolean isUnison() {
      for (int one = 0; one < sounds.size(); one++) {
        for (int other = one + 1; other < sounds.size(); other++) {
          if (sounds.get(one) == sounds.get(other)) {
            return true;
          }
        }
      }
      return false;
    }

    /** The first number of a row that is not what a voice sounds from a beat on. */
    int firstNotHeard(int voice, int beat, Row heard) {
      if (heard == null) {
        return NONE;
      }
      for (int i = 0; i < heard.size(); i++) {
        int sounds = soundOf(voice, beat + i);
        int number = sounds == SILENCE ? MOST_NUMBER : sounds + 10;
        if (heard.get(i) != number) {
          return i;
        }
      }
      return NONE;
    }
  }

  /**
   * In which ways the notes meet in two voices, each way of two voices once, with how often it comes.
   * What is ill depends on the pitches by these alone, and they are few where the beats are many.
   */
  private static final class Meetings {
    private final Row ways = new Row(MOST_WAYS);
    private final Row times = new Row(MOST_WAYS);

    void gather(Canon canon) {
      ways.clear();
      times.clear();
      if (canon == null) {
        return;
      }
      for (int one = 0; one < canon.voices(); one++) {
        for (int other = one + 1; other < canon.voices(); other++) {
          int own = ways.size();
          int begin = Math.max(canon.entryOf(one), canon.entryOf(other));
          int end = Math.min(canon.stillFrom(one), canon.stillFrom(other));
          for (int beat = begin; beat < end; beat++) {
            meet(wayOf(canon, one, other, beat), own);
          }
        }
      }
    }

    /** Bits 0 to 3 and 4 to 7 are the notes, 8 to 13 how far apart beside them, 14 if one alone is turned. */
    private static int wayOf(Canon canon, int one, int other, int beat) {
      int apart = canon.lift(one, beat) - canon.lift(other, beat);
      boolean isOtherTurned = canon.isTurned(other);
      // A difference has no sign: it is told so that the other's note counts down.
      if (isOtherTurned) {
        apart = -apart;
      }
      int notes = canon.noteSung(one, beat) | canon.noteSung(other, beat) << 4;
      int turned = canon.isTurned(one) != isOtherTurned ? 1 << 14 : 0;
      return notes | (apart + 32) << 8 | turned;
    }

    private void meet(int way, int own) {
      for (int i = ways.size() - 1; i >= own; i--) {
        if (ways.get(i) == way) {
          times.set(i, times.get(i) + 1);
          return;
        }
      }
      ways.add(way);
      times.add(1);
    }

    int size() {
      return ways.size();
    }

    /** Whether the notes of a way do not agree, by the pitches and the law of a canon. */
    boolean isIll(int place, Canon canon) {
      int way = ways.get(place);
      Row pitches = canon.tune.pitches;
      int one = pitches.get(way & 15);
      int other = pitches.get(way >> 4 & 15);
      int apart = (way >> 8 & 63) - 32;
      int difference = apart + (way >> 14 == 0 ? one - other : 2 * pitches.get(0) - one - other);
      return !soundsWell(canon.law, difference);
    }

    /** Notes (bits) whose pitches tell whether a way is ill. */
    int notesOf(int place) {
      int way = ways.get(place);
      return 1 << (way & 15) | 1 << (way >> 4 & 15) | way >> 14;
    }

    boolean areWell(Canon canon) {
      for (int place = 0; place < ways.size(); place++) {
        if (isIll(place, canon)) {
          return false;
        }
      }
      return true;
    }

    int ills(Canon canon) {
      int ills = 0;
      for (int place = 0; place < ways.size(); place++) {
        if (isIll(place, canon)) {
          ills += times.get(place);
        }
      }
      return ills;
    }
  }

  /** What would be if something were otherwise: it is tried in a canon of its own. */
  private static final class Mind {
    private final Canon trial = new Canon();
    private final Meetings meetings = new Meetings();
    /** By note: notes (bits) that, changed together with it, touch all that is ill. */
    private final Row mends = new Row(MOST_NOTES);

    Canon take(Canon told) {
      trial.copyFrom(told);
      return trial;
    }

    int agreeingEntries(Canon told, int kind, int high) {
      take(told);
      int voice = trial.voices();
      trial.addVoice(kind, 0, high);
      int bits = 0;
      for (int entry = 0; entry < TRIED_ENTRIES; entry++) {
        trial.setEntry(voice, entry);
        if (trial.lastAgreesWithAll()) {
          bits |= 1 << entry;
        }
      }
      return bits;
    }

    int addablePitches(Canon told) {
      take(told);
      int note = trial.tune.notes();
      trial.tune.add(0, 1);
      meetings.gather(trial);
      int bits = 0;
      for (int pitch = 0; pitch <= MOST_PITCH; pitch++) {
        trial.tune.setPitch(note, pitch);
        if (meetings.areWell(trial)) {
          bits |= 1 << pitch;
        }
      }
      return bits;
    }

    int leastIlls(Canon told) {
      take(told);
      meetings.gather(trial);
      int least = meetings.ills(trial);
      for (int note = 0; note < trial.tune.notes(); note++) {
        int was = trial.tune.pitchOf(note);
        for (int pitch = 0; pitch <= MOST_PITCH; pitch++) {
          trial.tune.setPitch(note, pitch);
          least = Math.min(least, meetings.ills(trial));
        }
        trial.tune.setPitch(note, was);
      }
      return least;
    }

    int wellDraws(Canon told, int times, int seed) {
      take(told);
      meetings.gather(trial);
      int z = seed;
      int well = 0;
      for (int i = 0; i < times; i++) {
        for (int note = 0; note < trial.tune.notes(); note++) {
          z = z * 1664525 + 1013904223;
          trial.tune.setPitch(note, (z & 0x7fffffff) / 256 % (MOST_PITCH + 1));
        }
        if (meetings.areWell(trial)) {
          well++;
        }
      }
      return well;
    }

    int fewestChanges(Canon told) {
      take(told);
      meetings.gather(trial);
      if (meetings.areWell(trial)) {
        return 0;
      }
      findMends();
      if (firstSingle() != NONE) {
        return 1;
      }
      return hasPair() ? 2 : NONE;
    }

    int firstChange(Canon told) {
      take(told);
      meetings.gather(trial);
      if (meetings.areWell(trial)) {
        return NONE;
      }
      findMends();
      return firstSingle();
    }

    /** Most notes cannot mend all, because something ill does not sound them: those are not tried. */
    private void findMends() {
      mends.clear();
      for (int note = 0; note < trial.tune.notes(); note++) {
        mends.add((1 << MOST_NOTES) - 1);
      }
      for (int place = 0; place < meetings.size(); place++) {
        if (meetings.isIll(place, trial)) {
          keepMends(meetings.notesOf(place));
        }
      }
    }

    private void keepMends(int touched) {
      for (int note = 0; note < mends.size(); note++) {
        if ((touched >> note & 1) == 0) {
          mends.set(note, mends.get(note) & touched);
        }
      }
    }

    private boolean canMend(int one, int other) {
      return (mends.get(one) >> other & 1) == 1;
    }

    /** The first pitch of a note that mends all; NONE. The note is then as it was. */
    private int mendingPitch(int note) {
      int was = trial.tune.pitchOf(note);
      int found = NONE;
      for (int pitch = 0; pitch <= MOST_PITCH && found == NONE; pitch++) {
        trial.tune.setPitch(note, pitch);
        if (meetings.areWell(trial)) {
          found = pitch;
        }
      }
      trial.tune.setPitch(note, was);
      return found;
    }

    private int firstSingle() {
      for (int note = 0; note < trial.tune.notes(); note++) {
        int pitch = canMend(note, note) ? mendingPitch(note) : NONE;
        if (pitch != NONE) {
          return 10 * note + pitch;
        }
      }
      return NONE;
    }

    private boolean hasPair() {
      for (int one = 0; one < trial.tune.notes(); one++) {
        int was = trial.tune.pitchOf(one);
        for (int pitch = 0; pitch <= MOST_PITCH; pitch++) {
          trial.tune.setPitch(one, pitch);
          for (int other = one + 1; other < trial.tune.notes(); other++) {
            if (canMend(one, other) && mendingPitch(other) != NONE) {
              return true;
            }
          }
        }
        trial.tune.setPitch(one, was);
      }
      return false;
    }
  }

  /** Counts tunes: notes e beats apart form chains, and the chains are free of one another. */
  private static final class Walks {
    private final long[] ending = new long[STEPS];
    private final long[] longer = new long[STEPS];

    long tunesAgreeing(int notes, int apart, int law) {
      if (apart < 1) {
        return 0;
      }
      long tunes = 1;
      for (int chain = 0; chain < apart && chain < notes; chain++) {
        tunes *= chainsOf((notes - 1 - chain) / apart + 1, law);
      }
      return tunes;
    }

    /** How many rows of so many pitches there are in which each agrees with the next. */
    private long chainsOf(int notes, int law) {
      for (int pitch = 0; pitch < STEPS && pitch < ending.length; pitch++) {
        ending[pitch] = 1;
      }
      for (int i = 1; i < notes; i++) {
        lengthen(law);
      }
      long all = 0;
      for (int pitch = 0; pitch < STEPS && pitch < ending.length; pitch++) {
        all += ending[pitch];
      }
      return all;
    }

    private void lengthen(int law) {
      for (int next = 0; next < STEPS && next < longer.length; next++) {
        longer[next] = 0;
        for (int pitch = 0; pitch < STEPS && pitch < ending.length; pitch++) {
          if (soundsWell(law, next - pitch)) {
            longer[next] += ending[pitch];
          }
        }
      }
      for (int pitch = 0; pitch < longer.length && pitch < ending.length; pitch++) {
        ending[pitch] = longer[pitch];
      }
    }
  }

  /** The letters of a canon. In a form, # stands for a digit and @ for the letter of a kind. */
  private static final class Text {
    private static final String NOTE_FORM = "n##;";
    private static final String SHORT_VOICE_FORM = "v@#,#;";
    private static final String LONG_VOICE_FORM = "v@##,#;";
    private static final String ROUNDS_FORM = "r##;";
    private static final String WELL_FORM = "w#;";

    private final Row letters = new Row(MOST_LETTERS);

    int size() {
      return letters.size();
    }

    int add(int c) {
      letters.add(c);
      return letters.size();
    }

    void clear() {
      letters.clear();
    }

    /** The letter at a place; -1 behind the end, where no form goes on. */
    private int at(int place) {
      return letters.has(place) ? letters.get(place) : -1;
    }

    private boolean isDigit(int place) {
      return at(place) >= '0' && at(place) <= '9';
    }

    private int digit(int place) {
      return at(place) - '0';
    }

    private int kind(int place) {
      for (int i = 0; i < KIND_LETTERS.length(); i++) {
        if (KIND_LETTERS.charAt(i) == at(place)) {
          return i;
        }
      }
      return -1;
    }

    /** The form of the statement that begins at a place; any, where none does, for it fits nothing. */
    private String formAt(int place) {
      switch (at(place)) {
        case 'v': return isDigit(place + 3) ? LONG_VOICE_FORM : SHORT_VOICE_FORM;
        case 'r': return ROUNDS_FORM;
        case 'w': return WELL_FORM;
        default: return NOTE_FORM;
      }
    }

    private boolean fits(char sign, int place) {
      switch (sign) {
        case '#': return isDigit(place);
        case '@': return kind(place) >= 0;
        default: return at(place) == sign;
      }
    }

    /** The fault of the first letter that is out of form; 0 if there is none. */
    int formFault() {
      int place = 0;
      for (int told = 0; told < MOST_LETTERS; told++) {
        String form = formAt(place);
        for (int i = 0; i < form.length(); i++) {
          if (!fits(form.charAt(i), place + i)) {
            return -1000 - place - i;
          }
        }
        place += form.length();
        if (place >= letters.size()) {
          return 0;
        }
      }
      return 0;
    }

    /** Tells a canon all statements, all in form: how many; the fault of the first that cannot be. */
    int tellAll(Canon canon) {
      int place = 0;
      int told = 0;
      for (; told < MOST_LETTERS && place < letters.size(); told++) {
        int behind = place + formAt(place).length();
        if (!tell(canon, place, behind)) {
          return -2000 - place;
        }
        place = behind;
      }
      return told;
    }

    private boolean tell(Canon canon, int place, int behind) {
      if (canon == null) {
        return false;
      }
      switch (at(place)) {
        case 'n': return canon.tellNote(digit(place + 1), digit(place + 2));
        case 'v': return canon.tellVoice(kind(place + 1), entry(place + 2), digit(behind - 2));
        case 'r': return canon.tellRounds(digit(place + 1), digit(place + 2));
        case 'w': return canon.tellWell(digit(place + 1));
        default: return false;
      }
    }

    private int entry(int place) {
      return isDigit(place + 1) ? 10 * digit(place) + digit(place + 1) : digit(place);
    }
  }
}
