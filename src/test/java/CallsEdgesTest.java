/**
 * The sentences of the promises 1 to 18 that name an edge, a method each: every reason for which a call is
 * refused stands there by itself, and a refused call leaves all as it was.
 */
public final class CallsEdgesTest {
    private static final int LEAST = Integer.MIN_VALUE;
    private static final int GREATEST = Integer.MAX_VALUE;
    private static final int[] NO_SERVERS = {-1, 5, 31, 32, LEAST, GREATEST, GREATEST - 1, LEAST + 1};
    private static final int[] NO_KEYS = {-1, 4, 32, LEAST, GREATEST, LEAST + 1};

    private final Checks checks;

    private CallsEdgesTest(Checks checks) {
        this.checks = checks;
    }

    /**
     * Of the members 0, 1 and 2: 0 leads in term 1, with 4 entries of which 3 count and 1 is cut away, and keeps
     * a read; 1 follows and has 3 entries; 2 is down. Messages wait.
     */
    private static QuorumLog busy() {
        QuorumLog x = Checks.led(7, 0);
        x.compact(0);
        x.put(0, 1, 5);
        x.put(0, 2, 6);
        x.crash(2);
        x.deliver(2);
        x.deliver(3);
        x.put(0, 1, 7);
        x.read(0, 1);
        x.beat(0);
        return x;
    }

    private static QuorumLog asking() {
        QuorumLog x = new QuorumLog(7);
        x.timer(0);
        return x;
    }

    private static QuorumLog standing() {
        QuorumLog x = asking();
        x.deliver(0);
        x.deliver(1);
        return x;
    }

    private static QuorumLog down() {
        QuorumLog x = Checks.led(7, 0);
        x.crash(0);
        return x;
    }

    private static QuorumLog upAgain() {
        QuorumLog x = down();
        x.restart(0);
        return x;
    }

    /** Server 0, alone, was elected so often: each time it appended a NOTHING. It is up and no leader. */
    private static QuorumLog electedAlone(int times) {
        QuorumLog x = new QuorumLog(1);
        for (int i = 0; i < times; i++) {
            x.timer(0);
            Checks.forget(x, 0);
        }
        return x;
    }

    /** Server 1 of two leads in term 2, its NOTHING does not count yet: the entry at its COMMIT is of term 1. */
    private static QuorumLog openTerm() {
        QuorumLog x = Checks.led(3, 0);
        x.beat(0);
        Checks.deliver(x, 2);
        x.timer(1);
        Checks.deliver(x, 4);
        return x;
    }

    /** The same, but the snapshot is at COMMIT. */
    private static QuorumLog openTermBehindSnapshot() {
        QuorumLog x = openTerm();
        x.compact(1);
        return x;
    }

    /** Server 0 leads in term 1, its NOTHING does not count yet: COMMIT is 0, where the first snapshot is. */
    private static QuorumLog firstOpenTerm() {
        QuorumLog x = new QuorumLog(3);
        x.timer(0);
        Checks.deliver(x, 4);
        return x;
    }

    private static QuorumLog openChange() {
        QuorumLog x = Checks.led(3, 0);
        x.change(0, 4, true);
        return x;
    }

    private static QuorumLog fourReads() {
        QuorumLog x = Checks.led(3, 0);
        for (int i = 0; i < 4; i++) {
            x.read(0, i);
        }
        return x;
    }

    private static QuorumLog sixtyReads() {
        QuorumLog x = Checks.alone(2);
        for (int i = 0; i < 60; i++) {
            x.read(0, i % 4);
        }
        return x;
    }

    private void makersMakeWhatTheySay() {
        QuorumLog x = busy();
        checks.states("busy", x, 0, 3, 1, 0, 3, 1, 4, 7, 0, 1);
        checks.states("busy", x, 1, 0, 1, 0, 1, 0, 3, 7, 1, 1);
        checks.states("busy", x, 2, 0, 1, 0, 0, 0, 1, 7, 0, 0);
        checks.same("busy: a read is kept", x.outcome(0), 0);
        checks.yes("busy: messages wait", x.waiting() > 5);
        checks.same("asking", asking().state(0, 0), 1);
        checks.states("standing", standing(), 0, 2, 1, 0);
        checks.states("down", down(), 0, 0, 1, 0, 0, 0, 1, 7, 0, 0);
        checks.states("up again", upAgain(), 0, 0, 1, 0, 0, 0, 1, 7, 0, 1);
        checks.states("elected alone", electedAlone(3), 0, 0, 3, 0, 0, 0, 3, 1, 0, 1);
        checks.states("open term", openTerm(), 1, 3, 2, 1, 1, 0, 2, 3, 0, 1);
        checks.states("open term behind a snapshot", openTermBehindSnapshot(), 1, 3, 2, 1, 1, 1, 2, 3, 0, 1);
        checks.states("first open term", firstOpenTerm(), 0, 3, 1, 0, 0, 0, 1, 3, 0, 1);
        checks.states("open change", openChange(), 0, 3, 1, 0, 1, 0, 2, 19, 0, 1);
    }

    /** "the lowest five bits of members, or only server 0 if these are all 0" */
    private void promise1LowestFiveBits() {
        for (int bits = 0; bits < 32; bits++) {
            int due = bits == 0 ? 1 : bits;
            for (int above : new int[] {0, 32, 64, 96, -32, 1 << 30, LEAST, GREATEST - 31}) {
                QuorumLog x = new QuorumLog(above + bits);
                for (int server = 0; server < 5; server++) {
                    checks.same("QuorumLog(" + (above + bits) + "): members", x.state(server, 6), due);
                    checks.same("QuorumLog(" + (above + bits) + "): timer", x.timer(server) ? 1 : 0, due >> server & 1);
                }
            }
        }
    }

    /** "false, refused, if there is no such server" */
    private void noSuchServerIsRefused() {
        for (int server : NO_SERVERS) {
            checks.refused("timer(" + server + ")", false, CallsEdgesTest::busy, x -> x.timer(server));
            checks.refused("beat(" + server + ")", false, CallsEdgesTest::busy, x -> x.beat(server));
            checks.refused("compact(" + server + ")", false, CallsEdgesTest::busy, x -> x.compact(server));
            checks.refused("crash(" + server + ")", false, CallsEdgesTest::busy, x -> x.crash(server));
            checks.refused("restart(" + server + ")", false, CallsEdgesTest::busy, x -> x.restart(server));
        }
    }

    /** "or it does not fire": down, a leader, not in its own configuration. */
    private void promise2TimerDoesNotFire() {
        checks.refused("timer: down", false, CallsEdgesTest::busy, x -> x.timer(2));
        checks.refused("timer: a leader", false, CallsEdgesTest::busy, x -> x.timer(0));
        checks.refused("timer: no member", false, CallsEdgesTest::busy, x -> x.timer(3));
        checks.refused("timer: no member", false, CallsEdgesTest::busy, x -> x.timer(4));
        checks.yes("timer: a follower that has heard", busy().timer(1));
        checks.yes("timer: one that asks", asking().timer(0));
        checks.yes("timer: a candidate", standing().timer(0));
        checks.yes("timer: one that was down", upAgain().timer(0));
        QuorumLog left = Checks.led(7, 0);
        left.change(0, 1, false);
        checks.same("1 does not know yet", left.state(1, 6), 7);
        checks.yes("timer: its own configuration counts, not the leader's", left.timer(1));
    }

    /** "has less than 40 entries in its log" */
    private void promise2TimerOfLongLogs() {
        QuorumLog x = electedAlone(39);
        checks.states("39 entries", x, 0, 0, 39, 0, 0, 0, 39);
        checks.yes("timer: 39 entries", x.timer(0));
        checks.states("40 entries", x, 0, 3, 40, 0, 40, 0, 40);
        checks.refused("timer: 40 entries", false, () -> electedAlone(40), y -> y.timer(0));
        checks.refused("timer: 41 entries", false, () -> Checks.longLog(41), y -> y.timer(1));
        QuorumLog cut = Checks.longLog(41);
        checks.same("41 entries", cut.state(1, 5) - cut.state(1, 4), 41);
        cut.compact(1);
        checks.states("cut, with index 41", cut, 1, 0, 1, 0, 40, 40, 41);
        checks.yes("timer: 1 entry with index 41", cut.timer(1));
    }

    /** "no leader that is up" */
    private void promise3BeatOfNoLeader() {
        checks.refused("beat: a follower", false, CallsEdgesTest::busy, x -> x.beat(1));
        checks.refused("beat: one that is down", false, CallsEdgesTest::busy, x -> x.beat(2));
        checks.refused("beat: no member", false, CallsEdgesTest::busy, x -> x.beat(4));
        checks.refused("beat: one that asks", false, CallsEdgesTest::asking, x -> x.beat(0));
        checks.refused("beat: a candidate", false, CallsEdgesTest::standing, x -> x.beat(0));
        checks.refused("beat: one that led and is down", false, CallsEdgesTest::down, x -> x.beat(0));
        checks.refused("beat: one that led and is up again", false, CallsEdgesTest::upAgain, x -> x.beat(0));
        QuorumLog alone = Checks.alone(1);
        checks.yes("beat: alone", alone.beat(0));
        checks.same("it has nobody to send to", alone.waiting(), 0);
    }

    /** "IllegalArgumentException if there is no such server or key" */
    private void promise4And6NoSuchServerOrKey() {
        for (int server : NO_SERVERS) {
            checks.refused("put(" + server + ")", Checks.ARGUMENT, CallsEdgesTest::busy, x -> x.put(server, 0, 1));
            checks.refused("read(" + server + ")", Checks.ARGUMENT, CallsEdgesTest::busy, x -> x.read(server, 0));
        }
        for (int key : NO_KEYS) {
            checks.refused("put(0, " + key + ")", Checks.ARGUMENT, CallsEdgesTest::busy, x -> x.put(0, key, 1));
            checks.refused("read(0, " + key + ")", Checks.ARGUMENT, CallsEdgesTest::busy, x -> x.read(0, key));
        }
        checks.refused("put: neither", Checks.ARGUMENT, CallsEdgesTest::busy, x -> x.put(5, 4, 1));
        checks.refused("read: neither", Checks.ARGUMENT, CallsEdgesTest::busy, x -> x.read(-1, -1));
        QuorumLog x = Checks.alone(1);
        for (int key = 0; key < 4; key++) {
            checks.same("put, the keys that are", x.put(0, key, LEAST + key), key + 2);
            checks.same("read, the keys that are", x.read(0, key), key);
            checks.same("value", x.value(key), LEAST + key);
        }
    }

    /** "IllegalStateException if it is down or no leader" */
    private void promise4To6NoLeader() {
        noLeader("follower", CallsEdgesTest::busy, 1);
        noLeader("down", CallsEdgesTest::busy, 2);
        noLeader("no member", CallsEdgesTest::busy, 3);
        noLeader("asking", CallsEdgesTest::asking, 0);
        noLeader("candidate", CallsEdgesTest::standing, 0);
        noLeader("led and is down", CallsEdgesTest::down, 0);
        noLeader("led and is up again", CallsEdgesTest::upAgain, 0);
    }

    private void noLeader(String who, Checks.Maker maker, int server) {
        checks.refused("put: " + who, Checks.STATE, maker, x -> x.put(server, 3, 1));
        checks.refused("change, joins: " + who, Checks.STATE, maker, x -> x.change(server, 4, true));
        checks.refused("change, leaves: " + who, Checks.STATE, maker, x -> x.change(server, 1, false));
        checks.refused("read: " + who, Checks.STATE, maker, x -> x.read(server, 3));
    }

    /** "UnsupportedOperationException if its log has 24 entries" */
    private void promise4PutToLongLogs() {
        QuorumLog x = Checks.alone(23);
        checks.same("put: 23 entries", x.put(0, 0, 9), 24);
        checks.states("24 entries", x, 0, 3, 1, 0, 24, 0, 24);
        checks.refused("put: 24 entries", Checks.UNSUPPORTED, () -> Checks.alone(24), y -> y.put(0, 0, 9));
        checks.refused("put: 25 entries", Checks.UNSUPPORTED, CallsEdgesTest::leaderWith25, y -> y.put(0, 0, 9));
        x.compact(0);
        checks.same("put: 24 entries were cut away", x.put(0, 0, 9), 25);
    }

    private static QuorumLog leaderWith25() {
        QuorumLog x = Checks.alone(24);
        Checks.forget(x, 0);
        x.timer(0);
        return x;
    }

    /** "Exceptions ..; the first one named that applies is thrown." */
    private void promise4FirstOneNamed() {
        checks.refused("no key, 24 entries", Checks.ARGUMENT, () -> Checks.alone(24), x -> x.put(0, 4, 1));
        checks.refused("no server, 24 entries", Checks.ARGUMENT, () -> Checks.alone(24), x -> x.put(5, 0, 1));
        checks.refused("no key, follower", Checks.ARGUMENT, CallsEdgesTest::busy, x -> x.put(1, -1, 1));
        checks.refused("no key, down", Checks.ARGUMENT, CallsEdgesTest::busy, x -> x.put(2, 4, 1));
        checks.refused("follower, 24 entries", Checks.STATE, () -> followerWith(24), x -> x.put(0, 0, 1));
        checks.refused("down, 24 entries", Checks.STATE, () -> downWith(24), x -> x.put(0, 0, 1));
        checks.refused("no key, down, 24 entries", Checks.ARGUMENT, () -> downWith(24), x -> x.put(0, 4, 1));
    }

    private static QuorumLog followerWith(int entries) {
        QuorumLog x = Checks.alone(entries);
        Checks.forget(x, 0);
        return x;
    }

    private static QuorumLog downWith(int entries) {
        QuorumLog x = Checks.alone(entries);
        x.crash(0);
        return x;
    }

    /** "IllegalArgumentException if there is no such server or one" */
    private void promise5NoSuchServerOrOne() {
        for (int wrong : NO_SERVERS) {
            for (boolean joins : new boolean[] {true, false}) {
                checks.refused("change(" + wrong + ", 3, " + joins + ")", Checks.ARGUMENT,
                        CallsEdgesTest::busy, x -> x.change(wrong, joins ? 3 : 1, joins));
                checks.refused("change(0, " + wrong + ", " + joins + ")", Checks.ARGUMENT,
                        CallsEdgesTest::busy, x -> x.change(0, wrong, joins));
            }
        }
        checks.refused("change: neither", Checks.ARGUMENT, CallsEdgesTest::busy, x -> x.change(-1, 5, true));
    }

    /** "or one is a member already (joins), is none (not joins)" */
    private void promise5MemberAlreadyOrNone() {
        for (int one = 0; one < 5; one++) {
            int who = one;
            boolean isMember = one < 3;
            checks.refused("change(0, " + one + ")", Checks.ARGUMENT, CallsEdgesTest::busy,
                    x -> x.change(0, who, isMember));
            checks.same("the other way round", busy().change(0, who, !isMember), 5);
        }
        QuorumLog x = Checks.led(3, 0);
        x.change(0, 4, true);
        Checks.deliverAll(x);
        checks.throwing("a member of the latest MEMBERS", Checks.ARGUMENT, () -> x.change(0, 4, true));
        checks.same("it leaves", x.change(0, 4, false), 3);
        Checks.deliverAll(x);
        checks.throwing("none of the latest MEMBERS", Checks.ARGUMENT, () -> x.change(0, 4, false));
        x.compact(0);
        checks.throwing("none of the snapshot's", Checks.ARGUMENT, () -> x.change(0, 4, false));
        checks.throwing("a member of the snapshot's", Checks.ARGUMENT, () -> x.change(0, 1, true));
    }

    /** "or is the only one (not joins)" */
    private void promise5TheOnlyOne() {
        checks.refused("the only one", Checks.ARGUMENT, () -> Checks.alone(1), x -> x.change(0, 0, false));
        QuorumLog x = Checks.led(24, 4);
        checks.same("one of two", x.change(4, 3, false), 2);
        checks.throwing("the only one now", Checks.ARGUMENT, () -> x.change(4, 4, false));
        checks.same("one comes", x.change(4, 0, true), 3);
        Checks.deliverAll(x);
        checks.same("so it may go", x.change(4, 4, false), 4);
        checks.states("its configuration", x, 4, 3, 1, 4, 3, 0, 4, 1);
    }

    /** "UnsupportedOperationException if its log has 24 entries" */
    private void promise5LongLogs() {
        checks.same("change: 23 entries", Checks.alone(23).change(0, 1, true), 24);
        checks.refused("change: 24 entries", Checks.UNSUPPORTED, () -> Checks.alone(24), x -> x.change(0, 1, true));
        checks.refused("change: 25 entries", Checks.UNSUPPORTED, CallsEdgesTest::leaderWith25,
                x -> x.change(0, 1, true));
        QuorumLog x = Checks.alone(24);
        x.compact(0);
        checks.same("change: 24 entries were cut away", x.change(0, 1, true), 25);
    }

    /** "it has a MEMBERS above COMMIT" */
    private void promise5MembersAboveCommit() {
        checks.refused("joins", Checks.UNSUPPORTED, CallsEdgesTest::openChange, x -> x.change(0, 3, true));
        checks.refused("leaves", Checks.UNSUPPORTED, CallsEdgesTest::openChange, x -> x.change(0, 4, false));
        checks.refused("leaves itself", Checks.UNSUPPORTED, CallsEdgesTest::openChange, x -> x.change(0, 0, false));
        checks.refused("a PUT behind it", Checks.UNSUPPORTED, CallsEdgesTest::openChangeAndPut,
                x -> x.change(0, 3, true));
        QuorumLog x = openChange();
        checks.copy(x, 0, 1);
        checks.states("the MEMBERS is at COMMIT", x, 0, 3, 1, 0, 2, 0, 2, 19);
        checks.same("not above it", x.change(0, 3, true), 3);
        QuorumLog y = openChange();
        checks.same("a PUT does not wait", y.put(0, 0, 1), 3);
        checks.same("nor does a read", y.read(0, 0), 0);
    }

    private static QuorumLog openChangeAndPut() {
        QuorumLog x = openChange();
        x.put(0, 0, 1);
        return x;
    }

    /** "or the entry at COMMIT (or the snapshot, if that is there) has not its term" */
    private void promise5And6OpenTerms() {
        openTermRefuses("an entry of an older term", CallsEdgesTest::openTerm, 1);
        openTermRefuses("a snapshot of an older term", CallsEdgesTest::openTermBehindSnapshot, 1);
        openTermRefuses("the first snapshot", CallsEdgesTest::firstOpenTerm, 0);
        for (boolean cuts : new boolean[] {false, true}) {
            QuorumLog x = cuts ? openTermBehindSnapshot() : openTerm();
            checks.copy(x, 1, 0);
            checks.same("an entry of its term", x.read(1, 0), 0);
            x.compact(1);
            checks.same("a snapshot of its term", x.read(1, 0), 1);
            checks.same("change likewise", x.change(1, 2, true), 3);
        }
    }

    private void openTermRefuses(String what, Checks.Maker maker, int leader) {
        checks.refused("change, joins: " + what, Checks.UNSUPPORTED, maker, x -> x.change(leader, 4, true));
        checks.refused("change, leaves: " + what, Checks.UNSUPPORTED, maker, x -> x.change(leader, 1 - leader, false));
        checks.refused("read: " + what, Checks.UNSUPPORTED, maker, x -> x.read(leader, 0));
        checks.same("put: " + what, maker.make().put(leader, 0, 1), maker.make().state(leader, 5) + 1);
    }

    /** "Exceptions ..; the first one named that applies is thrown." */
    private void promise5FirstOneNamed() {
        checks.refused("member, open change", Checks.ARGUMENT, CallsEdgesTest::openChange, x -> x.change(0, 4, true));
        checks.refused("none, open change", Checks.ARGUMENT, CallsEdgesTest::openChange, x -> x.change(0, 3, false));
        checks.refused("member, 24 entries", Checks.ARGUMENT, () -> Checks.alone(24), x -> x.change(0, 0, true));
        checks.refused("only one, 24 entries", Checks.ARGUMENT, () -> Checks.alone(24), x -> x.change(0, 0, false));
        checks.refused("no one, 24 entries", Checks.ARGUMENT, () -> Checks.alone(24), x -> x.change(0, 5, true));
        checks.refused("member, follower", Checks.ARGUMENT, CallsEdgesTest::busy, x -> x.change(1, 2, true));
        checks.refused("none, down", Checks.ARGUMENT, CallsEdgesTest::busy, x -> x.change(2, 3, false));
        checks.refused("only one, follower", Checks.ARGUMENT, () -> followerWith(3), x -> x.change(0, 0, false));
        checks.refused("only one, down", Checks.ARGUMENT, () -> downWith(3), x -> x.change(0, 0, false));
        checks.refused("member, open term", Checks.ARGUMENT, CallsEdgesTest::openTerm, x -> x.change(1, 0, true));
        checks.refused("follower, 24 entries", Checks.STATE, () -> followerWith(24), x -> x.change(0, 1, true));
        checks.refused("down, 24 entries", Checks.STATE, () -> downWith(24), x -> x.change(0, 1, true));
    }

    /** "UnsupportedOperationException if it keeps four" */
    private void promise6KeepsFour() {
        checks.refused("a fifth read", Checks.UNSUPPORTED, CallsEdgesTest::fourReads, x -> x.read(0, 0));
        QuorumLog three = Checks.led(3, 0);
        for (int number = 0; number < 4; number++) {
            checks.same("the first four", three.read(0, 0), number);
        }
        QuorumLog x = fourReads();
        checks.copy(x, 0, 1);
        checks.same("the first is answered", x.outcome(0), 1);
        checks.same("the second is kept", x.outcome(1), 0);
        checks.same("one more has room", x.read(0, 3), 4);
        checks.throwing("and no other", Checks.UNSUPPORTED, () -> x.read(0, 3));
        x.crash(0);
        for (int number = 1; number < 5; number++) {
            checks.same("failed", x.outcome(number), 2);
        }
        x.restart(0);
        Checks.loseAll(x);
        Checks.forget(x, 1);
        checks.elect(x, 0, 1);
        x.beat(0);
        checks.copy(x, 0, 1);
        for (int number = 5; number < 9; number++) {
            checks.same("failed ones take no room", x.read(0, 0), number);
        }
        checks.throwing("four again", Checks.UNSUPPORTED, () -> x.read(0, 0));
    }

    /** "a leader keeps at most four": each leader for itself. */
    private void promise6KeepsFourEach() {
        QuorumLog x = Checks.led(7, 0);
        for (int i = 0; i < 4; i++) {
            x.read(0, 0);
        }
        Checks.loseAll(x);
        Checks.forget(x, 1, 2);
        checks.elect(x, 1, 2);
        x.beat(1);
        checks.copy(x, 1, 2);
        for (int number = 4; number < 8; number++) {
            checks.same("another leader's own four", x.read(1, 0), number);
        }
        checks.throwing("a fifth of the other leader", Checks.UNSUPPORTED, () -> x.read(1, 0));
        checks.throwing("a fifth of the first leader", Checks.UNSUPPORTED, () -> x.read(0, 0));
        for (int number = 0; number < 8; number++) {
            checks.same("kept", x.outcome(number), 0);
        }
    }

    /** "there were 60 reads", "at most 60" */
    private void promise6SixtyReads() {
        QuorumLog x = Checks.alone(2);
        for (int number = 0; number < 60; number++) {
            checks.same("read", x.read(0, 2), number);
            checks.same("answered", x.outcome(number), 1);
        }
        checks.same("the last of them has a value", x.value(59), 2);
        checks.refused("a 61st read", Checks.UNSUPPORTED, CallsEdgesTest::sixtyReads, y -> y.read(0, 2));
        checks.refused("a 61st read, no key", Checks.ARGUMENT, CallsEdgesTest::sixtyReads, y -> y.read(0, 4));
        checks.refused("a 61st read, no leader", Checks.STATE, CallsEdgesTest::sixtyReads, y -> y.read(1, 0));
        Checks.forget(x, 0);
        x.timer(0);
        checks.throwing("60 in all, of whichever term", Checks.UNSUPPORTED, () -> x.read(0, 2));
        checks.same("a put goes on", x.put(0, 2, 3), 4);
    }

    /** "Exceptions ..; the first one named that applies is thrown." */
    private void promise6FirstOneNamed() {
        checks.refused("no key, four kept", Checks.ARGUMENT, CallsEdgesTest::fourReads, x -> x.read(0, 4));
        checks.refused("no server, four kept", Checks.ARGUMENT, CallsEdgesTest::fourReads, x -> x.read(-1, 0));
        checks.refused("follower, four kept elsewhere", Checks.STATE, CallsEdgesTest::fourReads, x -> x.read(1, 0));
        checks.refused("no key, open term", Checks.ARGUMENT, CallsEdgesTest::openTerm, x -> x.read(1, 4));
        checks.refused("follower, open term", Checks.STATE, CallsEdgesTest::openTerm, x -> x.read(0, 0));
        checks.refused("no key, follower", Checks.ARGUMENT, CallsEdgesTest::busy, x -> x.read(1, 4));
        checks.refused("no key, down", Checks.ARGUMENT, CallsEdgesTest::busy, x -> x.read(2, -1));
    }

    /** "-1 if there is no such read", "0 if it was not" */
    private void promise7And8NoSuchRead() {
        int[] none = {-1, -2, 1, 4, 59, 60, 61, LEAST, GREATEST, LEAST + 1};
        for (int read : none) {
            checks.refused("outcome(" + read + ")", -1, CallsEdgesTest::busy, x -> x.outcome(read));
            checks.refused("value(" + read + ")", 0, CallsEdgesTest::busy, x -> x.value(read));
        }
        QuorumLog empty = new QuorumLog(1);
        checks.same("outcome(0), no read yet", empty.outcome(0), -1);
        checks.same("value(0), no read yet", empty.value(0), 0);
        QuorumLog all = sixtyReads();
        checks.same("outcome(59)", all.outcome(59), 1);
        for (int read : new int[] {60, 61, -1, LEAST, GREATEST}) {
            checks.same("sixty reads: outcome(" + read + ")", all.outcome(read), -1);
            checks.same("sixty reads: value(" + read + ")", all.value(read), 0);
        }
        QuorumLog x = busy();
        checks.same("kept", x.outcome(0), 0);
        checks.same("kept, so 0", x.value(0), 0);
        x.crash(0);
        checks.same("failed", x.outcome(0), 2);
        checks.same("failed, so 0", x.value(0), 0);
        checks.throwing("a refused read is none", Checks.STATE, () -> x.read(0, 0));
        checks.same("none", x.outcome(1), -1);
    }

    /** "it is down, or COMMIT is its snapshot's index" */
    private void promise9CompactRefused() {
        checks.refused("down", false, CallsEdgesTest::busy, x -> x.compact(2));
        checks.refused("a new one", false, () -> new QuorumLog(7), x -> x.compact(0));
        checks.refused("no member", false, CallsEdgesTest::busy, x -> x.compact(4));
        checks.refused("cut already", false, CallsEdgesTest::cutAlready, x -> x.compact(0));
        checks.refused("entries, but none counts", false, CallsEdgesTest::firstOpenTerm, x -> x.compact(0));
        checks.refused("a crash took COMMIT back", false, CallsEdgesTest::upAgain, x -> x.compact(0));
        checks.refused("down, though entries lie there", false, CallsEdgesTest::down, x -> x.compact(0));
        QuorumLog x = cutAlready();
        x.put(0, 1, 4);
        checks.yes("one more counts", x.compact(0));
        checks.states("an empty log", x, 0, 3, 1, 0, 4, 4, 4);
        checks.yes("a follower may, too", busyAfterBeat().compact(1));
    }

    private static QuorumLog cutAlready() {
        QuorumLog x = Checks.alone(3);
        x.compact(0);
        return x;
    }

    private static QuorumLog busyAfterBeat() {
        QuorumLog x = busy();
        Checks.deliverAll(x);
        x.beat(0);
        Checks.deliverAll(x);
        return x;
    }

    /** "with the MEMBERS that are the latest there": not those above COMMIT, which stay in the log. */
    private void promise9LatestMembersThere() {
        QuorumLog x = Checks.led(3, 0);
        x.change(0, 1, false);
        x.change(0, 2, true);
        checks.states("two MEMBERS, one counts", x, 0, 3, 1, 0, 2, 0, 3, 5);
        checks.yes("compact", x.compact(0));
        checks.states("the other one stays", x, 0, 3, 1, 0, 2, 2, 3, 5);
        checks.entries("the other one stays", x, 0, 3, 1, 2, 5, 0);
        Checks.loseAll(x);
        x.beat(0);
        checks.pass(x, 6, 0, 2);
        checks.same("the snapshot's members", x.state(2, 6), 1);
    }

    /** "false, refused, if .. it is down", ".. it is up" */
    private void promise10And11CrashAndRestart() {
        checks.refused("crash of one that is down", false, CallsEdgesTest::busy, x -> x.crash(2));
        for (int up : new int[] {0, 1, 3, 4}) {
            checks.refused("restart of one that is up", false, CallsEdgesTest::busy, x -> x.restart(up));
            checks.yes("crash of one that is up", busy().crash(up));
        }
        checks.yes("restart of one that is down", busy().restart(2));
        QuorumLog x = new QuorumLog(1);
        for (int server = 0; server < 5; server++) {
            checks.yes("crash of all", x.crash(server));
            checks.no("twice", x.crash(server));
            checks.same("down", x.state(server, 8), 0);
            checks.yes("restart of all", x.restart(server));
            checks.no("twice", x.restart(server));
            checks.same("up", x.state(server, 8), 1);
        }
    }

    /** "-1 if there is none", "false if there is none" */
    private void promise12And13NoSuchMessage() {
        int waiting = busy().waiting();
        for (int k : new int[] {-1, -2, waiting, waiting + 1, 47, 48, 49, LEAST, GREATEST, LEAST + 1}) {
            checks.refused("deliver(" + k + ")", -1, CallsEdgesTest::busy, x -> x.deliver(k));
            checks.refused("lose(" + k + ")", false, CallsEdgesTest::busy, x -> x.lose(k));
        }
        for (int k : new int[] {-1, 0, 1, 47, 48, LEAST, GREATEST}) {
            checks.refused("empty: deliver(" + k + ")", -1, () -> Checks.led(7, 0), x -> x.deliver(k));
            checks.refused("empty: lose(" + k + ")", false, () -> Checks.led(7, 0), x -> x.lose(k));
        }
        for (int k : new int[] {-1, 48, 49, LEAST, GREATEST}) {
            checks.refused("full: deliver(" + k + ")", -1, CallsEdgesTest::fullRow, x -> x.deliver(k));
            checks.refused("full: lose(" + k + ")", false, CallsEdgesTest::fullRow, x -> x.lose(k));
        }
        checks.same("full: deliver(47)", fullRow().deliver(47), 4);
        checks.same("full: deliver(0)", fullRow().deliver(0), 4);
        checks.yes("full: lose(47)", fullRow().lose(47));
        checks.yes("full: lose(0)", fullRow().lose(0));
        checks.same("the last one", busy().deliver(waiting - 1), 4);
        checks.yes("the last one", busy().lose(waiting - 1));
    }

    private static QuorumLog fullRow() {
        QuorumLog x = Checks.led(31, 0);
        for (int i = 0; i < 12; i++) {
            x.beat(0);
        }
        return x;
    }

    /** "is taken out": those behind it move up, those before it stay. */
    private void promise12And13TakenOut() {
        for (int k = 0; k < 4; k++) {
            QuorumLog delivered = new QuorumLog(31);
            delivered.timer(2);
            QuorumLog lost = new QuorumLog(31);
            lost.timer(2);
            delivered.deliver(k);
            checks.yes("lose", lost.lose(k));
            checks.same("one less", lost.waiting(), 3);
            checks.same("one less, and its answer", delivered.waiting(), 4);
            int place = 0;
            for (int receiver : new int[] {0, 1, 3, 4}) {
                if (receiver != (k < 2 ? k : k + 1)) {
                    checks.messages("the others, in order", lost, place, 0, 2, receiver);
                    checks.messages("the others, in order", delivered, place, 0, 2, receiver);
                    place++;
                }
            }
            checks.messages("its answer", delivered, 3, 1, k < 2 ? k : k + 1, 2);
        }
    }

    /** "How many messages wait": from none to 48. */
    private void promise14Waiting() {
        QuorumLog x = new QuorumLog(31);
        for (int waiting = 0; waiting < 48; waiting += 4) {
            checks.same("waiting", x.waiting(), waiting);
            x.timer(0);
        }
        checks.same("48 wait", x.waiting(), 48);
        x.timer(0);
        checks.same("no more than 48", x.waiting(), 48);
        for (int waiting = 47; waiting >= 0; waiting--) {
            x.lose(waiting / 2);
            checks.same("waiting", x.waiting(), waiting);
        }
        checks.no("none", x.lose(0));
        checks.same("none", x.waiting(), 0);
    }

    /** "-1 if there is no such message or what" */
    private void promise15NoSuchMessageOrWhat() {
        int waiting = busy().waiting();
        for (int what : new int[] {-1, 7, 8, LEAST, GREATEST, LEAST + 1}) {
            for (int k = 0; k < waiting; k++) {
                int place = k;
                checks.same("message(" + k + ", " + what + ")", busy().message(place, what), -1);
            }
        }
        for (int k : new int[] {-1, waiting, 47, 48, 49, LEAST, GREATEST, LEAST + 1}) {
            for (int what = -1; what <= 7; what++) {
                int asked = what;
                checks.refused("message(" + k + ", " + what + ")", -1, CallsEdgesTest::busy, x -> x.message(k, asked));
            }
        }
        QuorumLog empty = new QuorumLog(7);
        QuorumLog full = fullRow();
        for (int what = -1; what <= 7; what++) {
            for (int k : new int[] {-1, 0, 48}) {
                checks.same("empty: message(" + k + ", " + what + ")", empty.message(k, what), -1);
            }
            checks.same("full: message(48, " + what + ")", full.message(48, what), -1);
            checks.same("full: message(-1, " + what + ")", full.message(-1, what), -1);
        }
        checks.messages("full: the last one", full, 47, 4, 0, 4, 1, 1, 0, 0);
    }

    /** "(4; 0 for 1 and 3)", "1 for a yes and 0 for a no or no answer at all (5)", "round (6; 0 without one)" */
    private void promise15WithoutOne() {
        QuorumLog x = Checks.led(7, 0);
        x.read(0, 0);
        Checks.deliverAll(x);
        x.timer(1);
        checks.messages("QUESTION: no answer, no round", x, 0, 0, 1, 0, 2, 1, 0, 0);
        x.deliver(0);
        checks.messages("ANSWER, yes: no index, no round", x, 1, 1, 0, 1, 2, 0, 1, 0);
        x.deliver(0);
        checks.messages("ANSWER, no: no index, no round", x, 1, 1, 2, 1, 1, 0, 0, 0);
        x.deliver(0);
        checks.messages("CALL: no answer, no round", x, 1, 2, 1, 0, 2, 1, 0, 0);
        Checks.forget(x, 2);
        x.timer(2);
        checks.pass(x, 0, 2, 0);
        checks.pass(x, 1, 0, 2);
        checks.pass(x, 2, 1, 0);
        checks.lastMessage("VOTE, yes: no index, no round", x, 3, 0, 1, 2, 0, 1, 0);
        checks.pass(x, 2, 2, 0);
        checks.lastMessage("VOTE, no: no index, no round", x, 3, 0, 2, 2, 0, 0, 0);
    }

    /** "-1 if there is no such server or what" */
    private void promise16NoSuchServerOrWhat() {
        for (int server : NO_SERVERS) {
            for (int what = -1; what <= 9; what++) {
                int asked = what;
                checks.same("state(" + server + ", " + what + ")", busy().state(server, asked), -1);
            }
        }
        for (int what : new int[] {-1, 9, 10, LEAST, GREATEST, LEAST + 1}) {
            for (int server = 0; server < 5; server++) {
                int one = server;
                checks.refused("state(" + server + ", " + what + ")", -1, CallsEdgesTest::busy, x -> x.state(one, what));
            }
        }
    }

    /** "(Down: what a restart would give, but 0 for 8.)" */
    private void promise16Down() {
        for (Checks.Maker maker : new Checks.Maker[] {CallsEdgesTest::busyAfterBeat, CallsEdgesTest::asking,
            CallsEdgesTest::standing, CallsEdgesTest::openTermBehindSnapshot, CallsEdgesTest::cutAlready}) {
            for (int server = 0; server < 5; server++) {
                QuorumLog x = maker.make();
                x.crash(server);
                QuorumLog y = maker.make();
                y.crash(server);
                y.restart(server);
                for (int what = 0; what < 8; what++) {
                    checks.same("down: state(" + server + ", " + what + ")",
                            x.state(server, what), y.state(server, what));
                }
                checks.same("role", x.state(server, 0), 0);
                checks.same("COMMIT is the snapshot's index", x.state(server, 3), x.state(server, 4));
                checks.same("HEARD", x.state(server, 7), 0);
                checks.same("down", x.state(server, 8), 0);
                checks.same("up", y.state(server, 8), 1);
                for (int key = 0; key < 4; key++) {
                    checks.same("down: stored(" + server + ", " + key + ")",
                            x.stored(server, key), y.stored(server, key));
                }
            }
        }
        checks.states("a leader that went down", down(), 0, 0, 1, 0, 0, 0, 1, 7, 0, 0);
    }

    /** "-1 if it has no such entry in its log, there is no such server or what" */
    private void promise17NoSuchEntry() {
        int[] none = {-1, 0, 1, 5, 6, 48, 49, LEAST, LEAST + 1, LEAST + 2, LEAST + 3, GREATEST, GREATEST - 1};
        for (int what = -1; what <= 4; what++) {
            QuorumLog x = busy();
            for (int index : none) {
                checks.same("entry(0, " + index + ", " + what + ")", x.entry(0, index, what), -1);
            }
            for (int server : NO_SERVERS) {
                checks.same("entry(" + server + ", 2, " + what + ")", x.entry(server, 2, what), -1);
            }
            checks.same("one without entries", x.entry(4, 0, what), -1);
            checks.same("one without entries", x.entry(4, 1, what), -1);
        }
        for (int what : new int[] {-1, 4, 5, LEAST, GREATEST}) {
            QuorumLog x = busy();
            for (int index = 2; index <= 4; index++) {
                checks.same("entry(0, " + index + ", " + what + ")", x.entry(0, index, what), -1);
            }
        }
        QuorumLog x = busy();
        checks.entries("the first behind the snapshot", x, 0, 2, 1, 1, 1, 5);
        checks.entries("the last", x, 0, 4, 1, 1, 1, 7);
        checks.entries("one that is down has its log", x, 2, 1, 1, 0, 0, 0);
        checks.same("and no more", x.entry(2, 2, 0), -1);
        QuorumLog cut = cutAlready();
        for (int index = -1; index <= 5; index++) {
            checks.same("an empty log behind its snapshot", cut.entry(0, index, 0), -1);
        }
        checks.refused("entry only looks", -1, CallsEdgesTest::busy, y -> y.entry(0, 1, 0));
    }

    /** "key or members (2; 0 for a NOTHING), value (3; 0 if it is no PUT)" */
    private void promise17Sorts() {
        QuorumLog x = Checks.led(1, 0);
        x.put(0, 0, 0);
        x.put(0, 3, -1);
        x.change(0, 4, true);
        checks.entries("NOTHING", x, 0, 1, 1, 0, 0, 0);
        checks.entries("PUT of 0 to key 0", x, 0, 2, 1, 1, 0, 0);
        checks.entries("PUT of -1", x, 0, 3, 1, 1, 3, -1);
        checks.entries("MEMBERS", x, 0, 4, 1, 2, 17, 0);
        checks.pass(x, 4, 0, 4);
        checks.entries("copied", x, 4, 1, 1, 0, 0, 0);
        checks.entries("copied", x, 4, 2, 1, 1, 0, 0);
        checks.same("two at a time", x.entry(4, 3, 0), -1);
    }

    /** "0 if there is none such" */
    private void promise18NoSuchServerOrKey() {
        for (int key : NO_KEYS) {
            checks.refused("stored(0, " + key + ")", 0, CallsEdgesTest::busy, x -> x.stored(0, key));
        }
        for (int server : NO_SERVERS) {
            for (int key = -1; key <= 4; key++) {
                int asked = key;
                checks.same("stored(" + server + ", " + key + ")", busy().stored(server, asked), 0);
            }
        }
        QuorumLog x = busy();
        checks.same("up to COMMIT", x.stored(0, 1), 5);
        checks.same("up to COMMIT", x.stored(0, 2), 6);
        checks.same("never put", x.stored(0, 3), 0);
        QuorumLog cut = cutAlready();
        checks.same("an empty log behind its snapshot", cut.stored(0, 2), 2);
        checks.same("an empty log behind its snapshot", cut.stored(0, 3), 3);
        cut.put(0, 3, 8);
        cut.crash(0);
        checks.same("down: the snapshot's", cut.stored(0, 3), 3);
        cut.restart(0);
        checks.same("up: the snapshot's still", cut.stored(0, 3), 3);
        cut.timer(0);
        checks.same("what counted counts again", cut.stored(0, 3), 8);
    }

    /** "An object is used for at most 512 calls": the 512th is answered as the first one. */
    private void the512thCall() {
        QuorumLog x = new QuorumLog(4);
        x.timer(2);
        for (int i = 0; i < 170; i++) {
            checks.same("put", x.put(2, 3, i), i + 2);
            checks.yes("compact", x.compact(2));
            checks.same("stored", x.stored(2, 3), i);
        }
        checks.same("the 512th call", x.state(2, 5), 171);

        QuorumLog y = new QuorumLog(1);
        for (int term = 1; term <= 128; term++) {
            checks.yes("timer", y.timer(0));
            checks.yes("compact", y.compact(0));
            checks.yes("crash", y.crash(0));
            checks.yes("restart", term == 128 ? y.state(0, 1) == 128 : y.restart(0));
        }
    }

    public static void main(String[] args) {
        Checks checks = new Checks("CallsEdgesTest");
        CallsEdgesTest test = new CallsEdgesTest(checks);
        test.makersMakeWhatTheySay();
        test.promise1LowestFiveBits();
        test.noSuchServerIsRefused();
        test.promise2TimerDoesNotFire();
        test.promise2TimerOfLongLogs();
        test.promise3BeatOfNoLeader();
        test.promise4And6NoSuchServerOrKey();
        test.promise4To6NoLeader();
        test.promise4PutToLongLogs();
        test.promise4FirstOneNamed();
        test.promise5NoSuchServerOrOne();
        test.promise5MemberAlreadyOrNone();
        test.promise5TheOnlyOne();
        test.promise5LongLogs();
        test.promise5MembersAboveCommit();
        test.promise5And6OpenTerms();
        test.promise5FirstOneNamed();
        test.promise6KeepsFour();
        test.promise6KeepsFourEach();
        test.promise6SixtyReads();
        test.promise6FirstOneNamed();
        test.promise7And8NoSuchRead();
        test.promise9CompactRefused();
        test.promise9LatestMembersThere();
        test.promise10And11CrashAndRestart();
        test.promise12And13NoSuchMessage();
        test.promise12And13TakenOut();
        test.promise14Waiting();
        test.promise15NoSuchMessageOrWhat();
        test.promise15WithoutOne();
        test.promise16NoSuchServerOrWhat();
        test.promise16Down();
        test.promise17NoSuchEntry();
        test.promise17Sorts();
        test.promise18NoSuchServerOrKey();
        test.the512thCall();
        checks.end();
    }
}
