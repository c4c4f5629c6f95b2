import java.util.List;
import java.util.function.LongSupplier;

/**
 * The order of refusals, wherever a call could give two of them, and that nothing has changed
 * behind a call that was refused. The desk is as full as the document lets it be.
 */
public final class RefusalsTest {
    private static final int NONE = Sheet.NONE, BAD = Sheet.BAD, FULL = Sheet.FULL, MANY = Sheet.MANY;
    private static final int SHAPE = Sheet.SHAPE, MOST = Sheet.MOST, LEAST = Sheet.LEAST;
    /** The voices of the desk. */
    private static final int ROWFUL = 0, MANY_ROWFUL = 1, UNREAD = 2, BENT = 3, EMPTY = 4, MANY_READ = 5, NO_VOICE = 6;
    private static MensuralRows x;
    private static List<Long> before;

    /** Six voices and six followers; a row is written; what is picked is not the first. */
    private static void makeDesk() {
        x = Sheet.desk(4, "n2 . n2 . " + Sheet.times(20, "n1"));
        Sheet.add(x, 4, Sheet.times(12, "n2 ."));
        Sheet.add(x, 4, "n3");
        Sheet.add(x, 4, "n2 n3");
        Sheet.due("8 for 1", x.proportion(BENT, 8, 1), 1);
        for (int i = 0; i < 3; i++) {
            Sheet.due("5 for 1", x.proportion(BENT, 5, 1), 1);
        }
        Sheet.put(x, BENT, "n3:7 n2:-7");
        Sheet.add(x, 15, "");
        Sheet.add(x, Sheet.MANY_SIGN, Sheet.MANY_ROW);
        Sheet.due("pick", x.pick(ROWFUL, 2), 0);
        Sheet.due("pick", x.pick(BENT, 1), 0);
        for (int f = 0; f < 6; f++) {
            Sheet.due("canon", x.canon(f % 2 == 0 ? ROWFUL : BENT, f, 10 * f, f), f);
        }
        Sheet.due("write", x.write(4, 2, 48, 24, 0), 2);
        before = Sheet.state(x);
    }

    private static void refused(String name, LongSupplier call, long want) {
        Sheet.due(name, call.getAsLong(), want);
        Sheet.due(name + " changed nothing", Sheet.state(x).equals(before) ? 1 : 0, 1);
    }

    private static long fine(int n) {
        return Sheet.bytes(3, 1, 2, 1, 5, 4, 7, 2) & (n >= 8 ? -1L : (1L << 8 * n) - 1);
    }

    private static void makingCalls() {
        Sheet.says("voice: BAD; FULL.");
        refused("bad before full", () -> x.voice(16), BAD);
        refused("bad before full", () -> x.voice(-1), BAD);
        refused("full", () -> x.voice(0), FULL);
        refused("full", () -> x.voice(15), FULL);
        Sheet.says("note: BAD; FULL.");
        refused("voice, before full", () -> x.note(NO_VOICE, 0, 0, false), BAD);
        refused("kind, before full", () -> x.note(ROWFUL, 7, 0, false), BAD);
        refused("kind, before full", () -> x.note(ROWFUL, -1, 0, true), BAD);
        refused("pitch, before full", () -> x.note(ROWFUL, 0, 41, false), BAD);
        refused("pitch, before full", () -> x.note(MANY_ROWFUL, 0, -41, false), BAD);
        refused("kind", () -> x.note(BENT, 7, 0, false), BAD);
        refused("pitch", () -> x.note(BENT, 0, -41, false), BAD);
        refused("full", () -> x.note(ROWFUL, 0, 0, false), FULL);
        refused("full, not many", () -> x.note(MANY_ROWFUL, 6, 40, true), FULL);
        Sheet.says("rest: BAD; FULL.");
        refused("voice, before full", () -> x.rest(-1, 0), BAD);
        refused("kind, before full", () -> x.rest(ROWFUL, 7), BAD);
        refused("kind, before full", () -> x.rest(ROWFUL, -1), BAD);
        refused("kind", () -> x.rest(BENT, 7), BAD);
        refused("full", () -> x.rest(ROWFUL, 0), FULL);
        refused("full, not many", () -> x.rest(MANY_ROWFUL, 6), FULL);
        Sheet.says("dot: BAD: also it would stand behind none, or behind a DOT; FULL.");
        refused("voice", () -> x.dot(NO_VOICE), BAD);
        refused("behind none", () -> x.dot(EMPTY), BAD);
        refused("behind a dot", () -> x.dot(MANY_READ), BAD);
        refused("behind a dot, before full", () -> x.dot(MANY_ROWFUL), BAD);
        refused("full", () -> x.dot(ROWFUL), FULL);
    }

    private static void ligatures() {
        Sheet.says("ligature: BAD: also n, a shape that is not 0 .. 15, or a pitch (of the first n); "
            + "SHAPE: no such one, or two neighbours have one pitch; FULL (all of them).");
        refused("voice, before shape", () -> x.ligature(NO_VOICE, 3, 2, fine(2)), BAD);
        refused("shape's number, before full", () -> x.ligature(ROWFUL, 16, 2, fine(2)), BAD);
        refused("shape's number, before full", () -> x.ligature(ROWFUL, -1, 2, fine(2)), BAD);
        refused("shape's number, though 1 and 2 are in it", () -> x.ligature(ROWFUL, 19, 2, fine(2)), BAD);
        refused("n, before shape", () -> x.ligature(ROWFUL, 3, 1, fine(2)), BAD);
        refused("n, before shape", () -> x.ligature(EMPTY, 3, 9, fine(8)), BAD);
        refused("n, before full", () -> x.ligature(ROWFUL, 0, 9, fine(8)), BAD);
        refused("pitch, before shape", () -> x.ligature(EMPTY, 3, 2, Sheet.bytes(0, 41)), BAD);
        refused("pitch, before neighbours", () -> x.ligature(EMPTY, 0, 3, Sheet.bytes(1, 1, -41)), BAD);
        refused("pitch and neighbours", () -> x.ligature(EMPTY, 0, 2, Sheet.bytes(41, 41)), BAD);
        refused("pitch, before full", () -> x.ligature(ROWFUL, 0, 2, Sheet.bytes(-41, 0)), BAD);
        refused("shape", () -> x.ligature(EMPTY, 3, 2, fine(2)), SHAPE);
        refused("shape, before full", () -> x.ligature(ROWFUL, 3, 2, fine(2)), SHAPE);
        refused("rising end, before full", () -> x.ligature(ROWFUL, 4, 2, Sheet.bytes(0, 1)), SHAPE);
        refused("neighbours, before full", () -> x.ligature(ROWFUL, 0, 2, Sheet.bytes(1, 1)), SHAPE);
        refused("neighbours, before full", () -> x.ligature(MANY_READ, 0, 5, Sheet.bytes(1, 2, 3, 4, 4)), SHAPE);
        refused("full", () -> x.ligature(ROWFUL, 0, 2, fine(2)), FULL);
        for (int n = 5; n <= 8; n++) {
            int notes = n;
            refused(n + " for 4", () -> x.ligature(MANY_READ, 0, notes, fine(notes)), FULL);
        }
    }

    private static void proportionsAndBack() {
        Sheet.says("proportion: BAD; FULL: together one of them would be above 1000.");
        refused("voice, before full", () -> x.proportion(NO_VOICE, 2, 1), BAD);
        refused("up, before full", () -> x.proportion(BENT, 10, 1), BAD);
        refused("up", () -> x.proportion(BENT, 0, 1), BAD);
        refused("down, before full", () -> x.proportion(BENT, 9, 0), BAD);
        refused("down, before full", () -> x.proportion(BENT, 9, 10), BAD);
        refused("down", () -> x.proportion(ROWFUL, 1, -1), BAD);
        refused("full", () -> x.proportion(BENT, 2, 1), FULL);
        refused("full", () -> x.proportion(BENT, 9, 8), FULL);
        Sheet.says("back: BAD; NONE: there is none.");
        refused("voice", () -> x.back(NO_VOICE), BAD);
        refused("voice", () -> x.back(-1), BAD);
        refused("none", () -> x.back(EMPTY), NONE);
    }

    private static void questions() {
        Sheet.says("told: BAD.");
        refused("voice", () -> x.told(NO_VOICE, 0), BAD);
        refused("what", () -> x.told(ROWFUL, 7), BAD);
        refused("what", () -> x.told(MANY_READ, -1), BAD);
        Sheet.due("of a row that is MANY", x.told(MANY_READ, 0), 20);
        Sheet.due("picked of a row that is MANY", x.told(MANY_READ, 5), 0);
        Sheet.says("symbol: BAD.");
        refused("voice", () -> x.symbol(NO_VOICE, 0, 0), BAD);
        refused("i", () -> x.symbol(ROWFUL, 24, 0), BAD);
        refused("i", () -> x.symbol(EMPTY, 0, 0), BAD);
        refused("what", () -> x.symbol(ROWFUL, 0, 4), BAD);
        refused("what, of a dot", () -> x.symbol(ROWFUL, 1, 4), BAD);
        Sheet.due("of a row that is MANY", x.symbol(MANY_READ, 19, 0), 3);
        Sheet.says("readings: BAD; MANY.");
        refused("voice", () -> x.readings(NO_VOICE), BAD);
        refused("many", () -> x.readings(MANY_READ), MANY);
        refused("many", () -> x.readings(MANY_ROWFUL), MANY);
        Sheet.says("stuck: NONE: it has a READING. BAD.");
        refused("voice", () -> x.stuck(NO_VOICE), BAD);
        refused("many are some", () -> x.stuck(MANY_READ), NONE);
        Sheet.says("together: MANY: of some VOICE.");
        refused("many, before one without a reading and ends that differ", () -> x.together(), MANY);
        Sheet.says("count: BAD.");
        refused("what", () -> x.count(3), BAD);
        refused("what", () -> x.count(-1), BAD);
    }

    private static void ofReadings() {
        Sheet.says("strained: NONE: there is none such; BAD; MANY.");
        refused("voice, before none", () -> x.strained(NO_VOICE, 99), BAD);
        refused("many, before none", () -> x.strained(MANY_READ, 5000), MANY);
        refused("many, before none", () -> x.strained(MANY_READ, -1), MANY);
        refused("many", () -> x.strained(MANY_ROWFUL, 0), MANY);
        refused("none", () -> x.strained(UNREAD, 0), NONE);
        refused("none", () -> x.strained(BENT, 2), NONE);
        Sheet.says("form: NONE: there is none such; BAD; MANY.");
        refused("voice, before none", () -> x.form(NO_VOICE, 0, 99), BAD);
        refused("many, before none", () -> x.form(MANY_READ, 5000, 0), MANY);
        refused("many, before none", () -> x.form(MANY_READ, 0, 99), MANY);
        refused("none", () -> x.form(UNREAD, 0, 0), NONE);
        refused("none", () -> x.form(BENT, 2, 0), NONE);
        refused("none", () -> x.form(BENT, 0, 4), NONE);
        Sheet.says("value: NONE: no such READING, SYMBOL; BAD; MANY.");
        refused("voice, before none", () -> x.value(NO_VOICE, 0, 99), BAD);
        refused("many, before none", () -> x.value(MANY_READ, 5000, 0), MANY);
        refused("many, before none", () -> x.value(MANY_READ, 0, 20), MANY);
        refused("none", () -> x.value(UNREAD, 0, 0), NONE);
        refused("none", () -> x.value(BENT, 2, 0), NONE);
        refused("none", () -> x.value(BENT, 0, 4), NONE);
        Sheet.says("pick: NONE: there is none such; BAD; MANY.");
        refused("voice, before none", () -> x.pick(NO_VOICE, 99), BAD);
        refused("many, before none", () -> x.pick(MANY_READ, 5000), MANY);
        refused("many", () -> x.pick(MANY_READ, 0), MANY);
        refused("many", () -> x.pick(MANY_ROWFUL, 1), MANY);
        refused("none", () -> x.pick(UNREAD, 0), NONE);
        refused("none", () -> x.pick(BENT, 2), NONE);
        refused("none", () -> x.pick(ROWFUL, 4), NONE);
    }

    private static void ofTimes() {
        Sheet.says("time: NONE: there is no READING, no such SYMBOL; BAD; MANY.");
        refused("voice, before none", () -> x.time(NO_VOICE, 99, 0), BAD);
        refused("part, before many", () -> x.time(MANY_READ, 0, 2), BAD);
        refused("part, before none", () -> x.time(UNREAD, 0, -1), BAD);
        refused("part, before none", () -> x.time(BENT, 5, 2), BAD);
        refused("many, before none", () -> x.time(MANY_READ, 21, 0), MANY);
        refused("no reading", () -> x.time(UNREAD, 0, 0), NONE);
        refused("no symbol", () -> x.time(BENT, 5, 1), NONE);
        Sheet.says("at: NONE: there is none; BAD: also up is below 0, or down below 1; MANY.");
        refused("voice", () -> x.at(NO_VOICE, 0, 1), BAD);
        refused("up, before many", () -> x.at(MANY_READ, -1, 1), BAD);
        refused("down, before many", () -> x.at(MANY_READ, 0, 0), BAD);
        refused("down, before none", () -> x.at(UNREAD, 0, 0), BAD);
        refused("up, before none", () -> x.at(EMPTY, -1, 1), BAD);
        refused("many", () -> x.at(MANY_READ, MOST, 1), MANY);
        refused("no reading", () -> x.at(UNREAD, 0, 1), NONE);
        refused("behind the end", () -> x.at(BENT, MOST, 1), NONE);
        Sheet.says("meet: NONE: one has no READING; BAD; MANY.");
        refused("voice, before many", () -> x.meet(MANY_READ, NO_VOICE, 0), BAD);
        refused("voice, before many", () -> x.meet(-1, MANY_READ, 0), BAD);
        refused("what, before many", () -> x.meet(MANY_READ, MANY_READ, 2), BAD);
        refused("what, before none", () -> x.meet(UNREAD, UNREAD, -1), BAD);
        refused("many, before none", () -> x.meet(UNREAD, MANY_READ, 0), MANY);
        refused("many, before none", () -> x.meet(MANY_READ, UNREAD, 1), MANY);
        refused("many", () -> x.meet(ROWFUL, MANY_ROWFUL, 1), MANY);
        refused("many", () -> x.meet(MANY_ROWFUL, ROWFUL, 0), MANY);
        refused("none", () -> x.meet(UNREAD, ROWFUL, 0), NONE);
        refused("none", () -> x.meet(ROWFUL, UNREAD, 1), NONE);
    }

    private static void ofFollowers() {
        Sheet.says("canon: BAD; MANY; NONE: the VOICE has no READING; FULL.");
        refused("voice, before full", () -> x.canon(NO_VOICE, 0, 0, 0), BAD);
        refused("how, before many", () -> x.canon(MANY_READ, 8, 0, 0), BAD);
        refused("behind, before many", () -> x.canon(MANY_READ, 0, 100001, 0), BAD);
        refused("higher, before none", () -> x.canon(UNREAD, 0, 0, 41), BAD);
        refused("higher, before full", () -> x.canon(ROWFUL, 0, 0, -41), BAD);
        refused("behind, before full", () -> x.canon(ROWFUL, 0, -1, 0), BAD);
        refused("many, before full", () -> x.canon(MANY_READ, 0, 0, 0), MANY);
        refused("none, before full", () -> x.canon(UNREAD, 0, 0, 0), NONE);
        refused("full", () -> x.canon(ROWFUL, 0, 0, 0), FULL);
        refused("full", () -> x.canon(EMPTY, 7, 100000, 40), FULL);
        Sheet.says("follower: NONE: there is none such; BAD.");
        refused("f, before none", () -> x.follower(6, 99, 0), BAD);
        refused("f", () -> x.follower(-1, 0, 0), BAD);
        refused("what, before none", () -> x.follower(0, 24, 5), BAD);
        refused("what below 0, before none", () -> x.follower(0, 24, -1), BAD);
        refused("what below 0, before none", () -> x.follower(0, -1, -2), BAD);
        refused("what", () -> x.follower(0, 0, -1), BAD);
        refused("none", () -> x.follower(0, 22, 0), NONE);
        refused("none", () -> x.follower(1, 4, 4), NONE);
    }

    private static void ofWriting() {
        Sheet.says("write: NONE: there is none (what was written stays); BAD.");
        refused("sign, before none", () -> x.write(16, 1, 5, 0, 0), BAD);
        refused("sign", () -> x.write(-1, 1, 72, 0, 0), BAD);
        refused("n", () -> x.write(4, 0, 72, 72, 72), BAD);
        refused("n", () -> x.write(4, 4, 72, 72, 72), BAD);
        refused("a", () -> x.write(4, 1, 0, 72, 72), BAD);
        refused("b, before none", () -> x.write(4, 2, 5, 0, 72), BAD);
        refused("c, before none", () -> x.write(4, 3, 5, 72, LEAST), BAD);
        refused("none", () -> x.write(4, 1, 5, 0, 0), NONE);
        refused("none", () -> x.write(4, 3, 72, 72, MOST), NONE);
        Sheet.says("written: NONE.");
        refused("none", () -> x.written(2), NONE);
        refused("none", () -> x.written(-1), NONE);
    }

    public static void main(String[] args) {
        Sheet.says("What is refused changes nothing.");
        makeDesk();
        Sheet.due("the desk's state can be told", before.size() > 1000 ? 1 : 0, 1);
        makingCalls();
        ligatures();
        proportionsAndBack();
        questions();
        ofReadings();
        ofTimes();
        ofFollowers();
        ofWriting();
        Sheet.end();
    }
}
