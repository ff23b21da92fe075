import java.util.ArrayList;
import java.util.List;
import java.util.function.Supplier;
import java.util.function.ToLongFunction;

/**
 * Each refusal of each call: its number, which of two answers where both would, and that a refused call
 * changes nothing but how many refusals there were. For that, an object that was asked and its twin that
 * was not must answer all else alike, now and after what they were told has been used.
 */
public final class RefusalTest {
  private static final int NOBODY = -1;
  private static final int OTHER = -2;
  private static final int STATE = -3;
  private static final int BELOW = -4;
  private static final int ROOM = -6;
  private static final int MIN = Integer.MIN_VALUE;
  private static final int MAX = Integer.MAX_VALUE;

  private static int wrong = 0;
  private static int asked = 0;
  private static String state = "";
  private static Supplier<OneTuneNine> maker = OneTuneNine::new;

  public static void main(String[] args) {
    state = "a new object";
    maker = OneTuneNine::new;
    nobodyFrom(0, 0);
    everywhere();
    letters();
    rows();
    refused("on()", STATE, x -> x.on());

    state = "some told";
    maker = RefusalTest::someTold;
    nobodyFrom(2, 2);
    everywhere();
    ofNotesAndVoices(2, 2);
    letters();
    rows();
    refused("on()", STATE, x -> x.on());

    state = "as much told as there is room for";
    maker = RefusalTest::fullTold;
    nobodyFrom(12, 6);
    everywhere();
    ofNotesAndVoices(12, 6);
    letters();
    rows();
    fullLetters();
    fullRow();

    notRefused();
    System.out.println("RefusalTest: " + asked + " refused calls, " + wrong + " wrong");
    if (wrong != 0) {
      System.exit(1);
    }
  }

  // The objects.

  private static void tell(OneTuneNine x, String letters) {
    for (int i = 0; i < letters.length(); i++) {
      x.letter(letters.charAt(i));
    }
  }

  private static OneTuneNine someTold() {
    OneTuneNine x = new OneTuneNine();
    tell(x, "n32;n51;vv1,2;vt4,0;r21;");
    x.canon();
    // Voice 0 sounds nothing, 5, 5 and 7.
    x.row(60);
    x.row(15);
    x.row(15);
    x.row(17);
    tell(x, "n41;vb3,2;w1;");
    return x;
  }

  private static OneTuneNine fullTold() {
    OneTuneNine x = new OneTuneNine();
    tell(x, "n03;n13;n23;n33;n43;n53;n63;n73;n83;n93;n03;n13;");
    x.canon();
    tell(x, "vv0,0;vb5,1;vt10,2;vs20,3;vf31,4;vx60,9;r42;");
    x.canon();
    x.image();
    x.rounds(3);
    x.step(1);
    x.law(126);
    x.pitch(11, 9);
    x.enter(5, 59);
    for (int number : new int[] {10, 10, 10, 11, 11, 11, 12, 12, 12, 13, 13, 13}) {
      x.row(number);
    }
    tell(x, "r11;r22;".repeat(10));
    return x;
  }

  // The refusals.

  /** Calls for a note or a voice that is not there; whatever else is wrong, that answers first. */
  private static void nobodyFrom(int notes, int voices) {
    for (int note : new int[] {notes, notes + 1, 12, 13, 100, MAX, -1, -2, MIN}) {
      for (int what : new int[] {0, 2, 3, -1, MIN, MAX}) {
        refused("note(" + note + ", " + what + ")", NOBODY, x -> x.note(note, what));
      }
      for (int v : new int[] {0, 9, 10, -1, MIN, MAX}) {
        refused("pitch(" + note + ", " + v + ")", NOBODY, x -> x.pitch(note, v));
      }
    }
    for (int voice : new int[] {voices, voices + 1, 6, 7, 100, MAX, -1, -2, MIN}) {
      for (int what : new int[] {0, 1, 2, 4, 5, -1, MIN, MAX}) {
        refused("voice(" + voice + ", " + what + ")", NOBODY, x -> x.voice(voice, what));
        refused("range(" + voice + ", " + what + ")", NOBODY, 1000000001, x -> x.range(voice, what));
      }
      for (int v : new int[] {0, 60, 61, 400, 401, -1, MIN, MAX}) {
        refused("enter(" + voice + ", " + v + ")", NOBODY, x -> x.enter(voice, v));
        refused("sound(" + voice + ", " + v + ")", NOBODY, 1000000001, x -> x.sound(voice, v));
        refused("judge(" + voice + ", " + v + ")", NOBODY, x -> x.judge(voice, v));
      }
    }
  }

  /** Calls that ask nothing of notes and voices. */
  private static void everywhere() {
    for (int below : new int[] {-1, -2, MIN}) {
      refused("rounds(" + below + ")", BELOW, x -> x.rounds(below));
      refused("step(" + below + ")", BELOW, x -> x.step(below));
      refused("law(" + below + ")", BELOW, x -> x.law(below));
      refused("ill(" + below + ")", BELOW, x -> x.ill(below));
      refused("stop(" + below + ")", BELOW, x -> x.stop(below));
      refused("who(" + below + ")", BELOW, x -> x.who(below));
      refused("seeds(" + below + ", 7)", BELOW, x -> x.seeds(below, 7));
      refused("first(" + below + ")", OTHER, x -> x.first(below));
      refused("changed(" + below + ")", OTHER, x -> x.changed(below));
    }
    refused("rounds(0)", BELOW, x -> x.rounds(0));
    for (int above : new int[] {5, 6, MAX}) {
      refused("rounds(" + above + ")", ROOM, x -> x.rounds(above));
    }
    for (int above : new int[] {3, 4, MAX}) {
      refused("step(" + above + ")", ROOM, x -> x.step(above));
    }
    for (int above : new int[] {128, 129, MAX}) {
      refused("law(" + above + ")", ROOM, x -> x.law(above));
    }
    for (int above : new int[] {401, 402, MAX}) {
      refused("ill(" + above + ")", ROOM, x -> x.ill(above));
      refused("stop(" + above + ")", ROOM, x -> x.stop(above));
      refused("who(" + above + ")", ROOM, x -> x.who(above));
    }
    for (int other : new int[] {2, 3, MAX}) {
      refused("first(" + other + ")", OTHER, x -> x.first(other));
      refused("changed(" + other + ")", OTHER, x -> x.changed(other));
    }
    seeds();
    entries();
    agreeing();
  }

  private static void seeds() {
    for (int z : new int[] {0, -1, MIN, MAX}) {
      refused("seeds(0, " + z + ")", BELOW, x -> x.seeds(0, z));
      refused("seeds(21, " + z + ")", ROOM, x -> x.seeds(21, z));
      refused("seeds(MAX, " + z + ")", ROOM, x -> x.seeds(MAX, z));
    }
  }

  /** A kind that is none answers before a height that is none. */
  private static void entries() {
    for (int kind : new int[] {-1, 6, 7, MIN, MAX}) {
      for (int high : new int[] {0, 9, -1, 10, MIN, MAX}) {
        refused("entries(" + kind + ", " + high + ")", OTHER, x -> x.entries(kind, high));
      }
    }
    for (int kind = 0; kind < 6; kind += 5) {
      int told = kind;
      for (int high : new int[] {-1, MIN}) {
        refused("entries(" + told + ", " + high + ")", BELOW, x -> x.entries(told, high));
      }
      for (int high : new int[] {10, MAX}) {
        refused("entries(" + told + ", " + high + ")", ROOM, x -> x.entries(told, high));
      }
    }
  }

  /** One that is below answers before one that is above, whichever of the two it is. */
  private static void agreeing() {
    for (int below : new int[] {0, -1, MIN}) {
      for (int any : new int[] {1, 12, 13, 0, -1, MIN, MAX}) {
        refused("agreeing(" + below + ", " + any + ")", BELOW, 4000000000000000004L, x -> x.agreeing(below, any));
        refused("agreeing(" + any + ", " + below + ")", BELOW, 4000000000000000004L, x -> x.agreeing(any, below));
      }
    }
    for (int above : new int[] {13, 14, MAX}) {
      for (int any : new int[] {1, 12, 13, MAX}) {
        refused("agreeing(" + above + ", " + any + ")", ROOM, 4000000000000000006L, x -> x.agreeing(above, any));
        refused("agreeing(" + any + ", " + above + ")", ROOM, 4000000000000000006L, x -> x.agreeing(any, above));
      }
    }
  }

  private static void ofNotesAndVoices(int notes, int voices) {
    for (int note : new int[] {0, notes - 1}) {
      for (int what : new int[] {3, 4, -1, MIN, MAX}) {
        refused("note(" + note + ", " + what + ")", OTHER, x -> x.note(note, what));
      }
      refused("pitch(" + note + ", -1)", BELOW, x -> x.pitch(note, -1));
      refused("pitch(" + note + ", MIN)", BELOW, x -> x.pitch(note, MIN));
      refused("pitch(" + note + ", 10)", ROOM, x -> x.pitch(note, 10));
      refused("pitch(" + note + ", MAX)", ROOM, x -> x.pitch(note, MAX));
    }
    for (int voice : new int[] {0, voices - 1}) {
      for (int what : new int[] {5, 6, -1, MIN, MAX}) {
        refused("voice(" + voice + ", " + what + ")", OTHER, x -> x.voice(voice, what));
      }
      for (int what : new int[] {2, 3, -1, MIN, MAX}) {
        refused("range(" + voice + ", " + what + ")", OTHER, 1000000002, x -> x.range(voice, what));
      }
      for (int below : new int[] {-1, MIN}) {
        refused("enter(" + voice + ", " + below + ")", BELOW, x -> x.enter(voice, below));
        refused("sound(" + voice + ", " + below + ")", BELOW, 1000000004, x -> x.sound(voice, below));
        refused("judge(" + voice + ", " + below + ")", BELOW, x -> x.judge(voice, below));
      }
      for (int above : new int[] {401, MAX}) {
        refused("enter(" + voice + ", " + above + ")", ROOM, x -> x.enter(voice, above));
        refused("sound(" + voice + ", " + above + ")", ROOM, 1000000006, x -> x.sound(voice, above));
        refused("judge(" + voice + ", " + above + ")", ROOM, x -> x.judge(voice, above));
      }
      refused("enter(" + voice + ", 61)", ROOM, x -> x.enter(voice, 61));
    }
  }

  /** A letter below 0 is one even where there is no room for any. */
  private static void letters() {
    for (int below : new int[] {-1, -2, -256, MIN}) {
      refused("letter(" + below + ")", BELOW, x -> x.letter(below));
    }
    for (int above : new int[] {256, 257, MAX}) {
      refused("letter(" + above + ")", ROOM, x -> x.letter(above));
    }
  }

  private static void fullLetters() {
    for (int c : new int[] {0, 'w', ';', 255}) {
      refused("letter(" + c + ") of 80", ROOM, x -> x.letter(c));
    }
  }

  private static void rows() {
    for (int below : new int[] {-1, -2, MIN}) {
      refused("row(" + below + ")", BELOW, x -> x.row(below));
    }
    for (int above : new int[] {61, 62, MAX}) {
      refused("row(" + above + ")", ROOM, x -> x.row(above));
    }
  }

  private static void fullRow() {
    for (int v : new int[] {0, 10, 60}) {
      refused("row(" + v + ") of 12", ROOM, x -> x.row(v));
    }
  }

  // What is asked of each.

  private static void refused(String call, int number, ToLongFunction<OneTuneNine> made) {
    refused(call, number, number, made);
  }

  private static void refused(String call, int number, long answer, ToLongFunction<OneTuneNine> made) {
    asked++;
    OneTuneNine x = maker.get();
    OneTuneNine twin = maker.get();
    for (int times = 1; times <= 2; times++) {
      long got = made.applyAsLong(x);
      hold(got == answer, call + " answered " + got + ", due is " + answer);
      for (int refusal = 11; refusal <= 16; refusal++) {
        int want = twin.count(refusal) + (refusal == 10 - number ? times : 0);
        int counted = x.count(refusal);
        hold(counted == want, call + ", then count(" + refusal + ") answered " + counted + ", due is " + want);
      }
    }
    List<Long> answers = allElse(x);
    hold(answers.equals(allElse(twin)), call + " has changed something");
  }

  private static void hold(boolean holds, String otherwise) {
    if (!holds) {
      wrong++;
      System.out.println(state + ": " + otherwise);
    }
  }

  /** What all was told answers: as it is, after the row and the letters are used, and from the image on. */
  private static List<Long> allElse(OneTuneNine x) {
    List<Long> answers = new ArrayList<>();
    told(x, answers);
    for (int beat : new int[] {0, 1, 400}) {
      answers.add((long) x.who(beat));
    }
    answers.add((long) x.judge(0, 0));
    answers.add((long) x.canon());
    told(x, answers);
    answers.add((long) x.on());
    told(x, answers);
    return answers;
  }

  private static void told(OneTuneNine x, List<Long> answers) {
    for (int what = 0; what <= 8; what++) {
      answers.add((long) x.count(what));
    }
    int notes = x.count(0);
    for (int note = 0; note < notes; note++) {
      answers.add(100L * x.note(note, 2) + 10L * x.note(note, 1) + x.note(note, 0));
    }
    int voices = x.count(1);
    for (int voice = 0; voice < voices; voice++) {
      answers.add(1000L * x.voice(voice, 0) + 10L * x.voice(voice, 1) + x.voice(voice, 2));
      answers.add((long) x.sound(voice, 60));
    }
    answers.add((long) x.allIll());
  }

  /** The answers below 0 that are no refusals count nothing. */
  private static void notRefused() {
    state = "no refusal";
    OneTuneNine x = someTold();
    hold(x.canon() == 3, "canon() of what was told");
    x.letter('q');
    hold(x.canon() == -1000, "canon() of a strange letter");
    tell(x, "n00;");
    hold(x.canon() == -2000, "canon() of no length");
    x.law(127);
    hold(x.first(0) == -9 && x.first(1) == -9, "first() if all is well");
    hold(x.changed(1) == -9, "changed(1) if all is well");
    hold(x.count(-1) == -9 && x.count(9) == -9 && x.count(10) == -9 && x.count(17) == -9, "count() of another what");
    hold(x.judge(0, 0) == -9, "judge() of what is so");
    for (int refusal = 11; refusal <= 16; refusal++) {
      hold(x.count(refusal) == 0, "count(" + refusal + ") answered " + x.count(refusal) + ", due is 0");
    }
  }
}
