/** The promises 1 to 18, one method each: ordinary inputs, the edges that the document names, wrong inputs. */
public final class PromiseTest {
    private static final int[] WRONG = {-1, 5, 6, 32, Integer.MIN_VALUE, Integer.MAX_VALUE};

    private final Checks checks;

    private PromiseTest(Checks checks) {
        this.checks = checks;
    }

    /** Server 1 of two leads in term 2 and has not heard of its NOTHING; both have snapshots of term 1. */
    private static QuorumLog openTerm() {
        QuorumLog x = Checks.led(3, 0);
        x.beat(0);
        Checks.deliverAll(x);
        x.compact(0);
        x.compact(1);
        x.timer(1);
        Checks.deliver(x, 4);
        return x;
    }

    private void promise1NewObject() {
        QuorumLog x = new QuorumLog(7);
        for (int server = 0; server < 5; server++) {
            checks.states("new", x, server, 0, 0, -1, 0, 0, 0, 7, 0, 1);
            for (int key = 0; key < 4; key++) {
                checks.same("new: stored", x.stored(server, key), 0);
            }
            checks.same("new: entry", x.entry(server, 0, 0), -1);
            checks.same("new: entry", x.entry(server, 1, 0), -1);
        }
        checks.same("new: waiting", x.waiting(), 0);
        checks.same("new: outcome", x.outcome(0), -1);
        int[] given = {0, 1, 31, 32, 34, 64 + 17, -1, -32, Integer.MIN_VALUE, Integer.MAX_VALUE, 30};
        int[] due = {1, 1, 31, 1, 2, 17, 31, 1, 1, 31, 30};
        for (int i = 0; i < given.length; i++) {
            QuorumLog y = new QuorumLog(given[i]);
            for (int server = 0; server < 5; server++) {
                checks.same("members of QuorumLog(" + given[i] + ")", y.state(server, 6), due[i]);
            }
        }
    }

    private void promise2Timer() {
        QuorumLog x = new QuorumLog(0b10110);
        for (int server : WRONG) {
            checks.no("timer(" + server + ")", x.timer(server));
        }
        checks.no("timer of one that is no member", x.timer(0));
        checks.no("timer of one that is no member", x.timer(3));
        checks.yes("timer", x.timer(2));
        checks.states("asking", x, 2, 1, 0, -1, 0, 0, 0, 22, 0, 1);
        checks.same("questions to all but itself", x.waiting(), 2);
        checks.messages("by number", x, 0, 0, 2, 1, 1, 0, 0, 0);
        checks.messages("by number", x, 1, 0, 2, 4, 1, 0, 0, 0);
        x.crash(1);
        checks.no("timer of one that is down", x.timer(1));
        x.restart(1);
        checks.yes("timer of one that is up again", x.timer(1));
        Checks.loseAll(x);

        QuorumLog alone = new QuorumLog(8);
        checks.yes("timer of one alone", alone.timer(3));
        checks.states("alone", alone, 3, 3, 1, 3, 1, 0, 1, 8, 0, 1);
        checks.same("its NOTHING: term", alone.entry(3, 1, 0), 1);
        checks.same("its NOTHING: sort", alone.entry(3, 1, 1), 0);
        checks.no("timer of a leader", alone.timer(3));
        checks.same("nothing to send", alone.waiting(), 0);
        timerAgain();
        timerWhenHeard();
        timerWithLongLogs();
    }

    private void timerAgain() {
        QuorumLog x = new QuorumLog(31);
        x.timer(0);
        x.deliver(0);
        x.deliver(3);
        checks.same("yes of 0 and 1", x.state(0, 0), 1);
        checks.yes("timer of one that asks", x.timer(0));
        checks.same("three and four questions", x.waiting(), 7);
        x.deliver(0);
        x.deliver(6);
        checks.same("the yes of 1 came before the timer", x.state(0, 0), 1);
        x.deliver(0);
        x.deliver(5);
        checks.states("yes of 0, 2 and 3", x, 0, 2, 1, 0);

        QuorumLog four = new QuorumLog(15);
        four.timer(0);
        four.deliver(0);
        four.deliver(2);
        checks.same("two are not most of four", four.state(0, 0), 1);
        four.deliver(0);
        four.deliver(1);
        checks.same("three are", four.state(0, 0), 2);
        Checks.loseAll(four);
        checks.yes("timer of a candidate", four.timer(0));
        checks.states("it asks for the next term, in its own", four, 0, 1, 1, 0);
        checks.messages("its question", four, 0, 0, 0, 1, 2, 0, 0, 0);
    }

    private void timerWhenHeard() {
        QuorumLog x = Checks.led(7, 0);
        checks.same("it has heard", x.state(1, 7), 1);
        checks.yes("timer", x.timer(1));
        checks.states("it has not heard any more", x, 1, 1, 1, 0, 0, 0, 1, 7, 0, 1);
        checks.messages("its question", x, 0, 0, 1, 0, 2, 1, 0, 0);
    }

    private void timerWithLongLogs() {
        QuorumLog x = Checks.longLog(39);
        checks.states("39 entries", x, 1, 0, 1, 0, 38, 0, 39);
        checks.yes("timer with 39 entries", x.timer(1));
        QuorumLog y = Checks.longLog(40);
        checks.same("40 entries", y.state(1, 5) - y.state(1, 4), 40);
        checks.no("timer with 40 entries", y.timer(1));
        y.compact(1);
        checks.yes("timer behind a cut", y.timer(1));
        QuorumLog z = Checks.longLog(41);
        checks.no("timer with 41 entries", z.timer(1));
    }

    private void promise3Beat() {
        QuorumLog x = new QuorumLog(11);
        for (int server : WRONG) {
            checks.no("beat(" + server + ")", x.beat(server));
        }
        checks.no("beat of a follower", x.beat(0));
        x.timer(0);
        checks.no("beat of one that asks", x.beat(0));
        Checks.deliverAll(x);
        checks.yes("beat of a leader", x.beat(0));
        checks.same("to two", x.waiting(), 2);
        checks.messages("without entries", x, 0, 4, 0, 1, 1, 1, 0, 0);
        checks.messages("without entries", x, 1, 4, 0, 3, 1, 1, 0, 0);
        x.put(0, 0, 4);
        x.put(0, 0, 5);
        x.put(0, 0, 6);
        Checks.loseAll(x);
        x.beat(0);
        checks.messages("two entries, no more", x, 0, 4, 0, 1, 1, 1, 2, 0);
        x.crash(0);
        checks.no("beat of a leader that went down", x.beat(0));
        x.restart(0);
        checks.no("beat of one that led", x.beat(0));
    }

    private void promise4Put() {
        QuorumLog x = new QuorumLog(7);
        for (int server : WRONG) {
            checks.throwing("put of no server", Checks.ARGUMENT, () -> x.put(server, 0, 1));
        }
        checks.throwing("put of no key, no leader", Checks.ARGUMENT, () -> x.put(0, 4, 1));
        checks.throwing("put of no key, no leader", Checks.ARGUMENT, () -> x.put(0, -1, 1));
        checks.throwing("put of a follower", Checks.STATE, () -> x.put(0, 0, 1));
        x.timer(0);
        checks.throwing("put of one that asks", Checks.STATE, () -> x.put(0, 0, 1));
        Checks.deliver(x, 3);
        checks.same("candidate", x.state(0, 0), 2);
        checks.throwing("put of a candidate", Checks.STATE, () -> x.put(0, 0, 1));
        Checks.deliverAll(x);
        checks.same("put", x.put(0, 3, Integer.MIN_VALUE), 2);
        checks.same("put", x.put(0, 0, 0), 3);
        checks.same("sort", x.entry(0, 2, 1), 1);
        checks.same("key", x.entry(0, 2, 2), 3);
        checks.same("value", x.entry(0, 2, 3), Integer.MIN_VALUE);
        checks.same("it does not count yet", x.stored(0, 3), 0);
        checks.messages("sent at once", x, 0, 4, 0, 1, 1, 1, 1, 0);
        checks.messages("sent at once, with the one before", x, 2, 4, 0, 1, 1, 1, 2, 0);
        Checks.deliverAll(x);
        checks.same("it counts", x.stored(0, 3), Integer.MIN_VALUE);
        checks.throwing("put of another follower", Checks.STATE, () -> x.put(1, 0, 1));
        checks.throwing("put of a leader, no key", Checks.ARGUMENT, () -> x.put(0, 4, 1));
        x.crash(0);
        checks.throwing("put of one that is down, no key", Checks.ARGUMENT, () -> x.put(0, Integer.MAX_VALUE, 1));
        checks.throwing("put of one that is down", Checks.STATE, () -> x.put(0, 0, 1));
        putToLongLogs();
    }

    private void putToLongLogs() {
        QuorumLog x = Checks.led(1, 0);
        for (int index = 2; index <= 24; index++) {
            checks.same("put", x.put(0, 1, index), index);
        }
        checks.throwing("put to 24 entries", Checks.UNSUPPORTED, () -> x.put(0, 1, 1));
        checks.throwing("put to 24 entries, no key", Checks.ARGUMENT, () -> x.put(0, 9, 1));
        x.crash(0);
        x.restart(0);
        checks.throwing("24 entries, no leader", Checks.STATE, () -> x.put(0, 1, 1));
        x.timer(0);
        checks.same("a NOTHING has room", x.state(0, 5), 25);
        checks.throwing("put to 25 entries", Checks.UNSUPPORTED, () -> x.put(0, 1, 1));
        x.compact(0);
        checks.same("put behind a cut", x.put(0, 1, 7), 26);
        checks.same("stored", x.stored(0, 1), 7);
    }

    private void promise5Change() {
        QuorumLog x = new QuorumLog(6);
        for (int wrong : WRONG) {
            checks.throwing("change of no server", Checks.ARGUMENT, () -> x.change(wrong, 0, true));
            checks.throwing("change of no one", Checks.ARGUMENT, () -> x.change(1, wrong, true));
            checks.throwing("change of no one", Checks.ARGUMENT, () -> x.change(1, wrong, false));
        }
        checks.throwing("a member already", Checks.ARGUMENT, () -> x.change(1, 2, true));
        checks.throwing("none", Checks.ARGUMENT, () -> x.change(1, 0, false));
        checks.throwing("of a follower", Checks.STATE, () -> x.change(1, 0, true));
        checks.throwing("of a follower", Checks.STATE, () -> x.change(1, 2, false));
        x.crash(1);
        checks.throwing("down, a member already", Checks.ARGUMENT, () -> x.change(1, 1, true));
        checks.throwing("down", Checks.STATE, () -> x.change(1, 0, true));
        QuorumLog one = new QuorumLog(4);
        checks.throwing("the only one, of a follower", Checks.ARGUMENT, () -> one.change(2, 2, false));
        one.timer(2);
        checks.throwing("the only one", Checks.ARGUMENT, () -> one.change(2, 2, false));
        changeJoins();
        changeLeaves();
        changeUnsupported();
    }

    private void changeJoins() {
        QuorumLog x = Checks.led(3, 0);
        checks.same("change", x.change(0, 4, true), 2);
        checks.same("sort", x.entry(0, 2, 1), 2);
        checks.same("members", x.entry(0, 2, 2), 19);
        checks.same("value", x.entry(0, 2, 3), 0);
        checks.same("term", x.entry(0, 2, 0), 1);
        checks.same("at once", x.state(0, 6), 19);
        checks.same("sent to the new one too", x.waiting(), 2);
        checks.messages("to 1", x, 0, 4, 0, 1, 1, 1, 1, 0);
        checks.messages("to 4 from NEXT on", x, 1, 4, 0, 4, 1, 0, 2, 0);
        checks.throwing("a change is open", Checks.UNSUPPORTED, () -> x.change(0, 3, true));
        checks.throwing("a change is open", Checks.UNSUPPORTED, () -> x.change(0, 1, false));
        checks.throwing("a change is open, a member already", Checks.ARGUMENT, () -> x.change(0, 4, true));
        Checks.deliverAll(x);
        checks.same("counts", x.state(0, 3), 2);
        checks.same("next change", x.change(0, 3, true), 3);
        checks.same("members", x.state(0, 6), 27);
        checks.same("most of four are three", x.state(0, 3), 2);
        x.deliver(0);
        x.deliver(2);
        checks.same("two of four", x.state(0, 3), 2);
        x.deliver(1);
        x.deliver(1);
        checks.same("three of four", x.state(0, 3), 3);
    }

    private void changeLeaves() {
        QuorumLog x = Checks.led(3, 0);
        checks.same("change", x.change(0, 1, false), 2);
        checks.states("alone, so it counts at once", x, 0, 3, 1, 0, 2, 0, 2, 1);
        checks.same("nothing is sent", x.waiting(), 0);
        checks.same("the other one does not know", x.state(1, 6), 3);

        QuorumLog y = Checks.led(7, 0);
        checks.same("a leader leaves", y.change(0, 0, false), 2);
        checks.states("and leads on", y, 0, 3, 1, 0, 1, 0, 2, 6);
        checks.no("its timer: a leader", y.timer(0));
        int read = y.read(0, 0);
        y.deliver(0);
        y.deliver(3);
        checks.states("one of two", y, 0, 3, 1, 0, 1);
        y.deliver(0);
        y.deliver(2);
        checks.states("both, so it is a follower", y, 0, 0, 1, 0, 2, 0, 2, 6);
        checks.same("its read failed", y.outcome(read), 2);
        checks.no("its timer: no member", y.timer(0));
        checks.throwing("put of one that left", Checks.STATE, () -> y.put(0, 0, 0));

        QuorumLog z = Checks.led(7, 0);
        z.put(0, 3, 1);
        Checks.loseTo(z, 2);
        z.deliver(0);
        Checks.loseAll(z);
        checks.same("only 0 and 1 have the PUT, unheard of", z.state(0, 3), 1);
        z.change(0, 2, false);
        checks.same("sent to 1 alone", z.waiting(), 1);
        Checks.deliverAll(z);
        checks.states("both of two", z, 0, 3, 1, 0, 3, 0, 3, 3);
    }

    private void changeUnsupported() {
        QuorumLog x = openTerm();
        checks.states("leads in an open term", x, 1, 3, 2, 1, 1, 1, 2, 3);
        checks.throwing("the snapshot at COMMIT is of another term", Checks.UNSUPPORTED, () -> x.change(1, 4, true));
        Checks.deliverAll(x);
        checks.same("COMMIT", x.state(1, 3), 2);
        x.compact(1);
        checks.same("the snapshot at COMMIT is of its term", x.change(1, 4, true), 3);

        QuorumLog y = Checks.led(1, 0);
        for (int index = 2; index <= 23; index++) {
            y.put(0, 1, index);
        }
        checks.same("the 24th entry", y.change(0, 1, true), 24);
        Checks.deliverAll(y);
        checks.same("counts", y.state(0, 3), 24);
        checks.throwing("change of 24 entries", Checks.UNSUPPORTED, () -> y.change(0, 2, true));
        y.compact(0);
        checks.same("change behind a cut", y.change(0, 2, true), 25);
    }

    private void promise6Read() {
        QuorumLog x = new QuorumLog(7);
        for (int server : WRONG) {
            checks.throwing("read of no server", Checks.ARGUMENT, () -> x.read(server, 0));
        }
        checks.throwing("read of no key", Checks.ARGUMENT, () -> x.read(0, 4));
        checks.throwing("read of no key", Checks.ARGUMENT, () -> x.read(0, -1));
        checks.throwing("read of a follower", Checks.STATE, () -> x.read(0, 0));
        x.timer(0);
        Checks.deliver(x, 7);
        checks.states("leads", x, 0, 3, 1, 0, 0);
        checks.throwing("read in an open term", Checks.UNSUPPORTED, () -> x.read(0, 0));
        Checks.deliverAll(x);
        x.put(0, 1, 11);
        Checks.deliverAll(x);
        checks.same("read", x.read(0, 1), 0);
        checks.messages("round 1", x, 0, 4, 0, 1, 1, 2, 0, 1);
        checks.same("kept", x.outcome(0), 0);
        checks.same("read", x.read(0, 0), 1);
        checks.messages("round 2", x, 2, 4, 0, 1, 1, 2, 0, 2);
        x.deliver(0);
        x.deliver(3);
        checks.same("one other of three has confirmed", x.outcome(0), 1);
        checks.same("its value", x.value(0), 11);
        checks.same("not that round", x.outcome(1), 0);
        Checks.deliverAll(x);
        checks.same("answered", x.outcome(1), 1);
        checks.same("its value", x.value(1), 0);
        x.crash(0);
        checks.throwing("read of one that is down", Checks.STATE, () -> x.read(0, 0));
        checks.throwing("read of one that is down, no key", Checks.ARGUMENT, () -> x.read(0, 5));
        readMany();
        readLater();
        readOpen();
    }

    private void readMany() {
        QuorumLog x = Checks.led(3, 0);
        for (int number = 0; number < 4; number++) {
            checks.same("read", x.read(0, 0), number);
        }
        checks.throwing("a fifth one", Checks.UNSUPPORTED, () -> x.read(0, 0));
        checks.throwing("a fifth one, no key", Checks.ARGUMENT, () -> x.read(0, 4));
        x.deliver(0);
        x.deliver(3);
        checks.same("the first is answered", x.outcome(0), 1);
        checks.same("so there is room", x.read(0, 0), 4);

        QuorumLog alone = Checks.led(1, 0);
        for (int number = 0; number < 60; number++) {
            alone.put(0, 2, number);
            alone.compact(0);
            checks.same("read", alone.read(0, 2), number);
            checks.same("answered at once", alone.outcome(number), 1);
        }
        checks.throwing("a 61st one", Checks.UNSUPPORTED, () -> alone.read(0, 2));
        for (int number = 0; number < 60; number++) {
            checks.same("value", alone.value(number), number);
        }
        checks.same("none", alone.outcome(60), -1);
        checks.same("none", alone.value(60), 0);
    }

    private void readLater() {
        QuorumLog x = Checks.led(7, 0);
        x.read(0, 2);
        Checks.loseAll(x);
        x.put(0, 2, 9);
        checks.messages("it has the round too", x, 0, 4, 0, 1, 1, 1, 1, 1);
        x.deliver(0);
        x.deliver(1);
        checks.same("the PUT counts first", x.outcome(0), 1);
        checks.same("so it is read", x.value(0), 9);

        QuorumLog y = Checks.led(31, 0);
        y.read(0, 0);
        Checks.loseAll(y);
        y.read(0, 0);
        y.deliver(0);
        y.deliver(3);
        checks.same("two of five", y.outcome(0), 0);
        y.deliver(0);
        y.deliver(2);
        checks.same("a later round will do", y.outcome(0), 1);
        checks.same("for both", y.outcome(1), 1);
    }

    private void readOpen() {
        QuorumLog x = openTerm();
        checks.throwing("the snapshot at COMMIT is of another term", Checks.UNSUPPORTED, () -> x.read(1, 0));
        Checks.deliverAll(x);
        checks.same("no read was counted", x.read(1, 0), 0);

        QuorumLog y = Checks.led(3, 0);
        y.read(0, 0);
        Checks.loseAll(y);
        y.change(0, 1, false);
        checks.same("alone, but nobody has looked", y.outcome(0), 0);
        checks.same("another read", y.read(0, 1), 1);
        checks.same("looks at all", y.outcome(0), 1);
        checks.same("looks at all", y.outcome(1), 1);
    }

    private void promise7And8OutcomeAndValue() {
        QuorumLog x = Checks.led(3, 0);
        x.put(0, 0, -5);
        Checks.deliverAll(x);
        checks.same("none yet", x.outcome(0), -1);
        x.read(0, 0);
        for (int read : new int[] {-1, 1, 59, 60, Integer.MIN_VALUE, Integer.MAX_VALUE}) {
            checks.same("outcome(" + read + ")", x.outcome(read), -1);
            checks.same("value(" + read + ")", x.value(read), 0);
        }
        checks.same("kept", x.outcome(0), 0);
        checks.same("no value yet", x.value(0), 0);
        Checks.deliverAll(x);
        checks.same("answered", x.outcome(0), 1);
        checks.same("value", x.value(0), -5);
        x.put(0, 0, 6);
        Checks.deliverAll(x);
        checks.same("the value of then", x.value(0), -5);
        x.read(0, 0);
        x.crash(0);
        checks.same("failed", x.outcome(1), 2);
        checks.same("no value", x.value(1), 0);
        checks.same("answered stays", x.outcome(0), 1);
        x.restart(0);
        Checks.deliverAll(x);
        checks.same("failed stays", x.outcome(1), 2);
    }

    private void promise9Compact() {
        QuorumLog x = Checks.led(7, 0);
        for (int server : WRONG) {
            checks.no("compact(" + server + ")", x.compact(server));
        }
        checks.no("COMMIT is the snapshot's index", x.compact(1));
        x.put(0, 0, 5);
        x.put(0, 1, 6);
        x.put(0, 0, 7);
        Checks.loseTo(x, 2);
        x.deliver(0);
        x.deliver(2);
        checks.states("COMMIT 2 of 4", x, 0, 3, 1, 0, 2, 0, 4);
        checks.yes("compact", x.compact(0));
        checks.states("cut", x, 0, 3, 1, 0, 2, 2, 4, 7, 0, 1);
        checks.no("compact again", x.compact(0));
        checks.same("gone", x.entry(0, 1, 0), -1);
        checks.same("gone", x.entry(0, 2, 0), -1);
        checks.same("still there", x.entry(0, 3, 3), 6);
        checks.same("still there", x.entry(0, 4, 3), 7);
        checks.same("stored", x.stored(0, 0), 5);
        checks.same("does not count yet", x.stored(0, 1), 0);
        Checks.deliverAll(x);
        checks.same("stored", x.stored(0, 0), 7);
        checks.same("stored", x.stored(0, 1), 6);
        x.crash(0);
        checks.no("compact of one that is down", x.compact(0));
        checks.same("the snapshot's value", x.stored(0, 0), 5);
        x.restart(0);
        checks.no("COMMIT was lost", x.compact(0));
        compactMembers();
    }

    private void compactMembers() {
        QuorumLog x = Checks.led(1, 0);
        x.change(0, 1, true);
        Checks.deliverAll(x);
        x.put(0, 3, 8);
        Checks.deliverAll(x);
        x.change(0, 2, true);
        checks.yes("compact", x.compact(0));
        checks.states("a MEMBERS above COMMIT stays", x, 0, 3, 1, 0, 3, 3, 4, 7);
        Checks.loseAll(x);
        x.beat(0);
        checks.messages("to 2", x, 1, 6, 0, 2, 1, 3, 0, 0);
        x.deliver(1);
        checks.states("the snapshot has the MEMBERS of COMMIT", x, 2, 0, 1, -1, 3, 3, 3, 3, 1, 1);
        checks.same("and the values", x.stored(2, 3), 8);
        Checks.deliverAll(x);
        checks.same("now it is a member", x.state(2, 6), 7);
        x.compact(0);
        checks.same("the MEMBERS are the snapshot's", x.state(0, 6), 7);
    }

    private void promise10And11CrashAndRestart() {
        QuorumLog x = new QuorumLog(7);
        for (int server : WRONG) {
            checks.no("crash(" + server + ")", x.crash(server));
            checks.no("restart(" + server + ")", x.restart(server));
        }
        checks.no("restart of one that is up", x.restart(0));
        x = Checks.led(7, 0);
        x.put(0, 0, 5);
        Checks.deliverAll(x);
        x.beat(0);
        Checks.deliverAll(x);
        x.compact(1);
        x.put(0, 0, 6);
        Checks.deliverAll(x);
        x.beat(0);
        Checks.deliverAll(x);
        checks.states("before", x, 1, 0, 1, 0, 3, 2, 3, 7, 1, 1);
        checks.same("before", x.stored(1, 0), 6);
        checks.yes("crash", x.crash(1));
        checks.states("down", x, 1, 0, 1, 0, 2, 2, 3, 7, 0, 0);
        checks.same("its log stays", x.entry(1, 3, 3), 6);
        checks.same("its COMMIT does not", x.stored(1, 0), 5);
        checks.no("crash of one that is down", x.crash(1));
        x.beat(0);
        checks.same("what comes to it is lost", x.deliver(0), 4);
        checks.same("nothing comes back", x.waiting(), 1);
        checks.states("nothing changes", x, 1, 0, 1, 0, 2, 2, 3, 7, 0, 0);
        checks.yes("restart", x.restart(1));
        checks.states("up", x, 1, 0, 1, 0, 2, 2, 3, 7, 0, 1);
        checks.no("restart again", x.restart(1));
        Checks.deliverAll(x);
        x.beat(0);
        checks.yes("crash of a leader", x.crash(0));
        checks.states("down", x, 0, 0, 1, 0, 0, 0, 3, 7, 0, 0);
        x.deliver(0);
        checks.states("what it sent comes still", x, 1, 0, 1, 0, 3, 2, 3, 7, 1, 1);
        x.restart(0);
        checks.states("a follower", x, 0, 0, 1, 0, 0, 0, 3, 7, 0, 1);
        Checks.deliverAll(x);
        x.timer(2);
        x.crash(2);
        checks.same("one that asked", x.state(2, 0), 0);
        x.restart(2);
        Checks.deliverAll(x);
        checks.same("what it was told is lost on it", x.state(2, 0), 0);
    }

    private void promise12To14DeliverLoseWaiting() {
        QuorumLog x = new QuorumLog(31);
        x.timer(4);
        checks.same("waiting", x.waiting(), 4);
        for (int k : new int[] {-1, 4, 47, 48, Integer.MIN_VALUE, Integer.MAX_VALUE}) {
            checks.same("deliver(" + k + ")", x.deliver(k), -1);
            checks.no("lose(" + k + ")", x.lose(k));
        }
        checks.same("waiting", x.waiting(), 4);
        checks.same("deliver", x.deliver(1), 0);
        checks.same("taken out, and an answer", x.waiting(), 4);
        checks.messages("the first stays", x, 0, 0, 4, 0);
        checks.messages("the next one moves up", x, 1, 0, 4, 2);
        checks.messages("the answer comes last", x, 3, 1, 1, 4, 1, 0, 1, 0);
        checks.yes("lose", x.lose(0));
        checks.same("taken out", x.waiting(), 3);
        checks.messages("the next one moves up", x, 0, 0, 4, 2);
        checks.yes("lose the last", x.lose(2));
        checks.same("taken out", x.waiting(), 2);
        checks.same("a lost answer does not count", x.state(4, 0), 1);
        fullRow();
    }

    private void fullRow() {
        QuorumLog x = Checks.led(31, 0);
        x.read(0, 0);
        for (int i = 0; i < 11; i++) {
            x.beat(0);
        }
        checks.same("48 wait", x.waiting(), 48);
        x.read(0, 0);
        x.beat(0);
        checks.same("no more", x.waiting(), 48);
        checks.messages("the first are still there", x, 0, 4, 0, 1, 1, 1, 0, 1);
        checks.messages("the later ones are lost", x, 47, 4, 0, 4, 1, 1, 0, 1);
        x.deliver(3);
        checks.same("one out, its result in", x.waiting(), 48);
        checks.messages("the result", x, 47, 5, 4, 0, 1, 1, 1, 1);
        x.lose(10);
        x.timer(1);
        checks.same("room for one of four questions", x.waiting(), 48);
        checks.messages("the first one", x, 47, 0, 1, 0, 2, 1, 0, 0);
        x.deliver(46);
        checks.same("a result is not answered here", x.waiting(), 47);
        checks.same("none", x.message(47, 0), -1);
    }

    private void promise15Message() {
        QuorumLog x = new QuorumLog(3);
        checks.same("none", x.message(0, 0), -1);
        x.timer(0);
        for (int wrong : new int[] {-1, 7, 8, Integer.MIN_VALUE, Integer.MAX_VALUE}) {
            checks.same("message(0, " + wrong + ")", x.message(0, wrong), -1);
            checks.same("message(" + wrong + ", 0)", x.message(wrong, 0), -1);
        }
        checks.messages("question", x, 0, 0, 0, 1, 1, 0, 0, 0);
        x.deliver(0);
        checks.messages("answer", x, 0, 1, 1, 0, 1, 0, 1, 0);
        x.deliver(0);
        checks.messages("call", x, 0, 2, 0, 1, 1, 0, 0, 0);
        x.deliver(0);
        checks.messages("vote", x, 0, 3, 1, 0, 1, 0, 1, 0);
        x.deliver(0);
        checks.messages("append", x, 0, 4, 0, 1, 1, 0, 1, 0);
        x.deliver(0);
        checks.messages("result", x, 0, 5, 1, 0, 1, 1, 1, 0);
        x.deliver(0);
        x.put(0, 0, 1);
        x.put(0, 0, 2);
        Checks.deliverAll(x);
        x.read(0, 0);
        checks.messages("append", x, 0, 4, 0, 1, 1, 3, 0, 1);
        x.deliver(0);
        checks.messages("result", x, 0, 5, 1, 0, 1, 3, 1, 1);
        Checks.deliverAll(x);
        x.compact(0);
        x.change(0, 3, true);
        Checks.loseTo(x, 1);
        checks.messages("install", x, 0, 6, 0, 3, 1, 3, 0, 1);
        x.deliver(0);
        checks.messages("its result", x, 0, 5, 3, 0, 1, 3, 1, 1);
        x.timer(1);
        checks.messages("question with a log", x, 1, 0, 1, 0, 2, 3, 0, 0);
        x.deliver(1);
        checks.messages("a no, with its own term", x, 1, 1, 0, 1, 1, 0, 0, 0);
    }

    private void promise16State() {
        QuorumLog x = new QuorumLog(3);
        for (int wrong : new int[] {-1, 9, 10, Integer.MIN_VALUE, Integer.MAX_VALUE}) {
            checks.same("state(0, " + wrong + ")", x.state(0, wrong), -1);
        }
        for (int server : WRONG) {
            for (int what = 0; what < 9; what++) {
                checks.same("state(" + server + ", " + what + ")", x.state(server, what), -1);
            }
        }
        x.timer(1);
        checks.states("asking", x, 1, 1, 0, -1, 0, 0, 0, 3, 0, 1);
        Checks.deliver(x, 2);
        checks.states("candidate", x, 1, 2, 1, 1, 0, 0, 0, 3, 0, 1);
        checks.states("not called yet", x, 0, 0, 0, -1, 0, 0, 0, 3, 0, 1);
        Checks.deliver(x, 2);
        checks.states("leader", x, 1, 3, 1, 1, 0, 0, 1, 3, 0, 1);
        checks.states("has voted", x, 0, 0, 1, 1, 0, 0, 0, 3, 0, 1);
        Checks.deliver(x, 2);
        checks.states("leader", x, 1, 3, 1, 1, 1, 0, 1, 3, 0, 1);
        checks.states("has heard", x, 0, 0, 1, 1, 0, 0, 1, 3, 1, 1);
        x.compact(1);
        checks.states("cut", x, 1, 3, 1, 1, 1, 1, 1, 3, 0, 1);
        x.crash(1);
        checks.states("down", x, 1, 0, 1, 1, 1, 1, 1, 3, 0, 0);
        checks.states("no member", x, 4, 0, 0, -1, 0, 0, 0, 3, 0, 1);
    }

    private void promise17Entry() {
        QuorumLog x = Checks.led(3, 1);
        x.put(1, 2, -1);
        Checks.deliverAll(x);
        x.change(1, 4, true);
        int[][] due = {{1, 0, 0, 0}, {1, 1, 2, -1}, {1, 2, 19, 0}};
        for (int index = 1; index <= 3; index++) {
            for (int what = 0; what < 4; what++) {
                checks.same("entry(1, " + index + ", " + what + ")", x.entry(1, index, what), due[index - 1][what]);
            }
            for (int wrong : new int[] {-1, 4, 5, Integer.MIN_VALUE, Integer.MAX_VALUE}) {
                checks.same("entry(1, " + index + ", " + wrong + ")", x.entry(1, index, wrong), -1);
            }
        }
        for (int index : new int[] {-1, 0, 4, 48, 49, Integer.MIN_VALUE, Integer.MIN_VALUE + 1, Integer.MAX_VALUE}) {
            checks.same("entry(1, " + index + ", 0)", x.entry(1, index, 0), -1);
        }
        for (int server : WRONG) {
            checks.same("entry(" + server + ", 1, 0)", x.entry(server, 1, 0), -1);
        }
        checks.same("it has none", x.entry(3, 1, 0), -1);
        x.compact(1);
        for (int index : new int[] {0, 1, 2, 4, Integer.MIN_VALUE, Integer.MIN_VALUE + 2, Integer.MAX_VALUE}) {
            checks.same("cut: entry(1, " + index + ", 0)", x.entry(1, index, 0), -1);
        }
        checks.same("cut: entry", x.entry(1, 3, 2), 19);
        x.crash(1);
        checks.same("down: entry", x.entry(1, 3, 2), 19);
    }

    private void promise18Stored() {
        QuorumLog x = Checks.led(7, 0);
        for (int key = 0; key < 4; key++) {
            x.put(0, key, 10 + key);
        }
        x.put(0, 1, Integer.MAX_VALUE);
        checks.same("does not count yet", x.stored(0, 1), 0);
        Checks.deliverAll(x);
        int[] due = {10, Integer.MAX_VALUE, 12, 13};
        for (int key = 0; key < 4; key++) {
            checks.same("stored(0, " + key + ")", x.stored(0, key), due[key]);
        }
        x.beat(0);
        x.deliver(0);
        checks.same("it counts at the others when they hear of it", x.stored(1, 1), Integer.MAX_VALUE);
        for (int wrong : new int[] {-1, 4, 5, Integer.MIN_VALUE, Integer.MAX_VALUE}) {
            checks.same("stored(0, " + wrong + ")", x.stored(0, wrong), 0);
        }
        for (int server : WRONG) {
            checks.same("stored(" + server + ", 0)", x.stored(server, 0), 0);
        }
        x.compact(0);
        x.put(0, 2, 99);
        checks.same("the snapshot's", x.stored(0, 2), 12);
        checks.same("no member", x.stored(4, 2), 0);
    }

    public static void main(String[] args) {
        Checks checks = new Checks("PromiseTest");
        PromiseTest test = new PromiseTest(checks);
        test.promise1NewObject();
        test.promise2Timer();
        test.promise3Beat();
        test.promise4Put();
        test.promise5Change();
        test.promise6Read();
        test.promise7And8OutcomeAndValue();
        test.promise9Compact();
        test.promise10And11CrashAndRestart();
        test.promise12To14DeliverLoseWaiting();
        test.promise15Message();
        test.promise16State();
        test.promise17Entry();
        test.promise18Stored();
        checks.end();
    }
}
