/** The sentences of the document's Terms that name an edge, a method each. */
public final class TermsEdgesTest {
    private final Checks checks;

    private TermsEdgesTest(Checks checks) {
        this.checks = checks;
    }

    /** Server 0 of five leads, and so many messages of its beats wait: a number that four divides. */
    private static QuorumLog waitingFor(int messages) {
        QuorumLog x = Checks.led(31, 0);
        for (int i = 0; i < messages; i += 4) {
            x.beat(0);
        }
        return x;
    }

    /** "one that is sent comes last, or is lost if 48 wait" */
    private void sentToLongRows() {
        QuorumLog x = waitingFor(44);
        x.timer(1);
        checks.same("48 wait", x.waiting(), 48);
        checks.messages("the first one", x, 0, 4, 0, 1);
        checks.messages("the 44th", x, 43, 4, 0, 4);
        checks.messages("the 45th", x, 44, 0, 1, 0);
        checks.messages("the 48th", x, 47, 0, 1, 4);
        x.beat(0);
        checks.same("four are lost", x.waiting(), 48);
        checks.messages("the 48th still", x, 47, 0, 1, 4);
        x.lose(0);
        checks.same("47 wait", x.waiting(), 47);
        x.beat(0);
        checks.same("one has room, three are lost", x.waiting(), 48);
        checks.messages("the one by the lowest number", x, 47, 4, 0, 1);
        checks.messages("behind the others", x, 46, 0, 1, 4);
        x.lose(47);
        x.lose(46);
        x.timer(2);
        checks.messages("two have room", x, 46, 0, 2, 0);
        checks.messages("two have room", x, 47, 0, 2, 1);
        checks.same("48 wait", x.waiting(), 48);
    }

    /** ".. is lost if 48 wait": the message alone; what sent it happens all the same. */
    private void callsWithFullRows() {
        QuorumLog x = waitingFor(48);
        checks.same("put", x.put(0, 1, 7), 2);
        checks.entries("its entry", x, 0, 2, 1, 1, 1, 7);
        checks.same("read", x.read(0, 1), 0);
        checks.same("it is kept", x.outcome(0), 0);
        checks.same("change", x.change(0, 4, false), 3);
        checks.same("its configuration", x.state(0, 6), 15);
        checks.yes("beat", x.beat(0));
        checks.yes("timer", x.timer(2));
        checks.states("it asks", x, 2, 1, 1, 0, 0, 0, 1, 31, 0, 1);
        checks.same("all that was sent is lost", x.waiting(), 48);
        checks.messages("the last one is as it was", x, 47, 4, 0, 4, 1, 1, 0, 0);
        Checks.loseAll(x);
        x.beat(0);
        checks.messages("the round was counted", x, 0, 4, 0, 1, 1, 1, 2, 1);
    }

    /** One that is delivered is taken out first, so that what it brings about finds its place. */
    private void deliveriesFromFullRows() {
        QuorumLog x = waitingFor(48);
        x.deliver(0);
        checks.same("its result has room", x.waiting(), 48);
        checks.lastMessage("the result", x, 5, 1, 0, 1, 1, 1, 0);
        x.put(0, 0, 5);
        x.deliver(47);
        checks.same("so has what follows a result", x.waiting(), 48);
        checks.lastMessage("the PUT, to 1", x, 4, 0, 1, 1, 1, 1, 0);

        QuorumLog y = new QuorumLog(31);
        for (int i = 0; i < 12; i++) {
            y.timer(0);
        }
        y.deliver(0);
        y.deliver(0);
        checks.messages("the answer of 1", y, 46, 1, 1, 0);
        checks.messages("the answer of 2", y, 47, 1, 2, 0);
        y.deliver(46);
        checks.same("two of five", y.state(0, 0), 1);
        checks.same("47 wait", y.waiting(), 47);
        y.deliver(46);
        checks.states("three of five", y, 0, 2, 1, 0);
        checks.same("two of four calls have room", y.waiting(), 48);
        checks.messages("to 1", y, 46, 2, 0, 1, 1);
        checks.messages("to 2", y, 47, 2, 0, 2, 1);
    }

    /** "one that comes to a server that is down is lost": of every kind. */
    private void comesToOneThatIsDown() {
        QuorumLog x = new QuorumLog(3);
        x.timer(0);
        lostOnTheWay(x, 0, 1);
        x.timer(0);
        x.deliver(0);
        lostOnTheWay(x, 1, 0);
        x.timer(0);
        Checks.deliver(x, 2);
        lostOnTheWay(x, 2, 1);
        checks.same("its term stays", x.state(1, 1), 0);
        x.timer(0);
        Checks.deliver(x, 3);
        lostOnTheWay(x, 3, 0);
        Checks.forget(x, 1);
        x.timer(0);
        Checks.deliver(x, 4);
        lostOnTheWay(x, 4, 1);
        x.beat(0);
        x.deliver(0);
        lostOnTheWay(x, 5, 0);
        checks.states("it led", x, 0, 0, 3, 0, 0, 0, 1, 3, 0, 1);

        QuorumLog y = Checks.led(1, 0);
        y.compact(0);
        y.change(0, 1, true);
        lostOnTheWay(y, 6, 1);
        checks.states("nothing came", y, 1, 0, 0, -1, 0, 0, 0, 1, 0, 1);
    }

    /** The only waiting message, of this kind, comes to its receiver while that is down. */
    private void lostOnTheWay(QuorumLog x, int kind, int receiver) {
        checks.same("one waits", x.waiting(), 1);
        checks.same("its receiver", x.message(0, 2), receiver);
        x.crash(receiver);
        int[] before = new int[9];
        for (int what = 0; what < 9; what++) {
            before[what] = x.state(receiver, what);
        }
        checks.same("deliver tells its kind", x.deliver(0), kind);
        checks.same("it is lost, nothing comes back", x.waiting(), 0);
        checks.states("nothing happens", x, receiver, before);
        x.restart(receiver);
        checks.same("nor does it come later", x.waiting(), 0);
    }

    /** "The LAST index is that of the last entry of the log, or of the snapshot; its term likewise." */
    private void lastIndexOfEmptyLogs() {
        QuorumLog x = Checks.led(7, 0);
        x.beat(0);
        Checks.deliverAll(x);
        x.compact(1);
        checks.states("an empty log", x, 1, 0, 1, 0, 1, 1, 1);
        x.timer(1);
        checks.messages("the snapshot's index", x, 0, 0, 1, 0, 2, 1, 0, 0);
        checks.pass(x, 0, 1, 0);
        checks.lastMessage("the snapshot's term: yes", x, 1, 0, 1, 2, 0, 1, 0);
        x.timer(2);
        checks.pass(x, 0, 2, 1);
        checks.lastMessage("a log like the snapshot: yes", x, 1, 1, 2, 2, 0, 1, 0);

        QuorumLog y = new QuorumLog(7);
        y.crash(2);
        y.timer(0);
        Checks.deliverAll(y);
        y.compact(0);
        checks.states("an empty log", y, 0, 3, 1, 0, 1, 1, 1);
        y.restart(2);
        checks.stand(y, 1, 0);
        checks.pass(y, 2, 1, 2);
        Checks.loseAll(y);
        y.timer(2);
        checks.messages("nothing at all, for term 3", y, 0, 0, 2, 0, 3, 0, 0, 0);
        checks.pass(y, 0, 2, 0);
        checks.lastMessage("before the snapshot: no", y, 1, 0, 2, 1, 0, 0, 0);
    }

    /** "The CONFIGURATION of a server: the latest MEMBERS of its log, or else those of its snapshot." */
    private void configurationsThatAreCutAway() {
        QuorumLog x = Checks.led(7, 0);
        x.change(0, 3, true);
        Checks.loseAll(x);
        checks.same("its latest MEMBERS, though they do not count yet", x.state(0, 6), 15);
        Checks.forget(x, 1, 2);
        checks.elect(x, 1, 2);
        x.beat(1);
        checks.pass(x, 4, 1, 0);
        checks.states("cut away: its snapshot's", x, 0, 0, 2, -1, 1, 0, 2, 7, 1, 1);
        checks.copy(x, 1, 2);
        x.change(1, 4, true);
        Checks.deliverAll(x);
        x.change(1, 3, true);
        checks.same("the latest", x.state(1, 6), 31);
        checks.same("the one before", x.state(0, 6), 23);
    }

    /** "to all servers of the sender's configuration but itself, by number" */
    private void sentToAllButItself() {
        for (int members = 1; members < 32; members++) {
            for (int one = 0; one < 5; one++) {
                QuorumLog x = new QuorumLog(members);
                if (x.timer(one)) {
                    checks.same("all but itself", x.waiting(), Integer.bitCount(members) - 1);
                    int place = 0;
                    for (int other = 0; other < 5; other++) {
                        if (other != one && (members >> other & 1) == 1) {
                            checks.messages("members " + members, x, place, 0, one, other, 1, 0, 0, 0);
                            place++;
                        }
                    }
                }
            }
        }
    }

    /** "MOST are more than half of the servers of a configuration." */
    private void mostAreMoreThanHalf() {
        int[] members = {1, 3, 7, 15, 31};
        for (int size = 1; size <= 5; size++) {
            QuorumLog x = new QuorumLog(members[size - 1]);
            x.timer(0);
            for (int said = 1; said < size; said++) {
                checks.same(said + " yes of " + size, x.state(0, 0), 2 * said > size ? 2 : 1);
                checks.pass(x, 0, 0, said);
                checks.pass(x, 1, said, 0);
            }
            for (int said = 1; said < size; said++) {
                checks.same(said + " votes of " + size, x.state(0, 0), 2 * said > size ? 3 : 2);
                checks.pass(x, 2, 0, said);
                checks.pass(x, 3, said, 0);
            }
            checks.same("all of " + size, x.state(0, 0), 3);
            int counts = size == 1 ? 1 : 0;
            checks.same("its NOTHING", x.state(0, 3), counts);
            for (int other = 1; other < size; other++) {
                checks.copy(x, 0, other);
                checks.same(other + 1 + " of " + size + " have it", x.state(0, 3), 2 * (other + 1) > size ? 1 : 0);
            }
            int read = x.read(0, 0);
            for (int other = 1; other < size; other++) {
                checks.same(other + " of " + size + " confirmed", x.outcome(read), 2 * other > size ? 1 : 0);
                checks.copy(x, 0, other);
            }
            checks.same("all of " + size + " confirmed", x.outcome(read), 1);
        }
    }

    /** "an APPEND of its entries from NEXT on (none, one or two; the index before is NEXT - 1)" */
    private void noneOneOrTwoEntries() {
        QuorumLog x = Checks.led(3, 0);
        x.beat(0);
        checks.lastMessage("none", x, 4, 0, 1, 1, 1, 0, 0);
        x.put(0, 0, 1);
        checks.lastMessage("one", x, 4, 0, 1, 1, 1, 1, 0);
        x.put(0, 0, 2);
        checks.lastMessage("two", x, 4, 0, 1, 1, 1, 2, 0);
        x.put(0, 0, 3);
        checks.lastMessage("two of three", x, 4, 0, 1, 1, 1, 2, 0);
        QuorumLog y = Checks.alone(1);
        y.change(0, 4, true);
        checks.lastMessage("from the first one on, behind nothing", y, 4, 0, 4, 1, 0, 2, 0);
    }

    /** "if NEXT - 1 is below its snapshot's index, an INSTALL" */
    private void nextBehindTheSnapshot() {
        QuorumLog x = Checks.led(7, 0);
        x.compact(0);
        x.beat(0);
        checks.messages("NEXT - 1 is the snapshot's", x, 1, 4, 0, 2, 1, 1, 0, 0);
        checks.pass(x, 4, 0, 2);
        checks.lastMessage("it fits", x, 5, 2, 0, 1, 1, 1, 0);
        Checks.loseAll(x);
        x.put(0, 0, 3);
        checks.messages("NEXT - 1 is the snapshot's, and an entry", x, 1, 4, 0, 2, 1, 1, 1, 0);
        checks.copy(x, 0, 1);
        Checks.loseAll(x);
        x.compact(0);
        x.beat(0);
        checks.messages("one above it for 1", x, 0, 4, 0, 1, 1, 2, 0, 0);
        checks.messages("one below it for 2", x, 1, 6, 0, 2, 1, 2, 0, 0);
        QuorumLog y = Checks.alone(1);
        y.compact(0);
        y.change(0, 4, true);
        checks.lastMessage("NEXT is 1, the snapshot's 1", y, 6, 0, 4, 1, 1, 0, 0);
    }

    /** "the greatest index above COMMIT .. that most of its configuration have (MATCH is it or above)" */
    private void greatestIndexThatMostHave() {
        QuorumLog x = Checks.led(31, 0);
        x.put(0, 0, 2);
        x.put(0, 0, 3);
        x.put(0, 0, 4);
        x.lose(Checks.find(x, 4, 0, 1));
        checks.copy(x, 0, 1);
        checks.same("two of five have 3", x.state(0, 3), 1);
        checks.copy(x, 0, 2);
        checks.same("three of five have 2, one more than it", x.state(0, 3), 2);
        x.lose(Checks.find(x, 4, 0, 3));
        checks.copy(x, 0, 3);
        checks.same("three of five have 3", x.state(0, 3), 3);
        QuorumLog y = Checks.led(7, 0);
        y.put(0, 0, 2);
        y.put(0, 0, 3);
        y.lose(Checks.find(y, 4, 0, 1));
        checks.copy(y, 0, 1);
        checks.same("two at once", y.state(0, 3), 3);
    }

    /** "whose entry has its term" */
    private void entriesOfOlderTermsDoNotCount() {
        QuorumLog x = Checks.led(7, 0);
        x.put(0, 0, 2);
        checks.pass(x, 4, 0, 1);
        Checks.loseAll(x);
        x.crash(0);
        Checks.forget(x, 1, 2);
        checks.elect(x, 1, 2);
        checks.states("1 leads, 2 is of term 1, 3 of term 2", x, 1, 3, 2, 1, 0, 0, 3);
        x.beat(1);
        checks.pass(x, 4, 1, 2);
        checks.lastMessage("2 has but 1", x, 5, 2, 1, 2, 1, 0, 0);
        x.lose(x.waiting() - 1);
        x.restart(0);
        x.beat(1);
        checks.lastMessage("2 and 3 go together", x, 4, 1, 2, 2, 2, 1, 0);
        checks.pass(x, 4, 1, 0);
        checks.pass(x, 5, 0, 1);
        checks.same("3 counts, and with it all before", x.state(1, 3), 3);

        QuorumLog y = Checks.led(7, 0);
        for (int value = 2; value <= 4; value++) {
            y.put(0, 0, value);
            checks.copy(y, 0, 1);
            Checks.loseAll(y);
        }
        y.crash(0);
        Checks.forget(y, 1, 2);
        checks.elect(y, 1, 2);
        checks.states("2 .. 4 are of term 1, 5 of term 2", y, 1, 3, 2, 1, 0, 0, 5);
        y.beat(1);
        checks.copy(y, 1, 2);
        checks.copy(y, 1, 2);
        checks.same("1 and 2 have 3, but it is of term 1", y.state(1, 3), 0);
        checks.copy(y, 1, 2);
        checks.same("1 and 2 have 5", y.state(1, 3), 5);
    }

    /** "If a MEMBERS that it is not in is then the latest of its log and not above COMMIT, it is a FOLLOWER." */
    private void leaderThatLeaves() {
        QuorumLog x = Checks.led(7, 0);
        x.put(0, 0, 1);
        x.change(0, 0, false);
        checks.states("2 is a PUT, 3 the MEMBERS", x, 0, 3, 1, 0, 1, 0, 3, 6);
        checks.pass(x, 4, 0, 1);
        checks.pass(x, 4, 0, 2);
        checks.pass(x, 5, 1, 0);
        checks.same("one of 1 and 2 is not most: it does not count itself", x.state(0, 3), 1);
        checks.pass(x, 5, 2, 0);
        checks.states("the MEMBERS is above COMMIT: it leads", x, 0, 3, 1, 0, 2, 0, 3, 6);
        x.lose(Checks.find(x, 4, 0, 1));
        x.lose(Checks.find(x, 4, 0, 2));
        checks.copy(x, 0, 1);
        checks.same("it leads", x.state(0, 0), 3);
        int sent = x.waiting();
        checks.copy(x, 0, 2);
        checks.states("the MEMBERS is at COMMIT: it follows", x, 0, 0, 1, 0, 3, 0, 3, 6, 0, 1);
        checks.same("and sends no more", x.waiting(), sent - 1);

        QuorumLog y = Checks.led(7, 0);
        y.change(0, 0, false);
        y.put(0, 0, 1);
        for (int other = 1; other < 3; other++) {
            y.lose(Checks.find(y, 4, 0, other));
            checks.copy(y, 0, other);
        }
        checks.states("the MEMBERS is below COMMIT: it follows", y, 0, 0, 1, 0, 3, 0, 3, 6, 0, 1);
        QuorumLog z = Checks.led(7, 0);
        z.change(0, 2, false);
        checks.copy(z, 0, 1);
        checks.states("a MEMBERS that it is in: it leads", z, 0, 3, 1, 0, 2, 0, 2, 3);
    }

    /** "If it is none of the kinds 0 and 1 and its term is above the receiver's" */
    private void termsThatAreAbove() {
        QuorumLog x = new QuorumLog(31);
        x.timer(0);
        checks.pass(x, 0, 0, 1);
        checks.states("a QUESTION moves no term", x, 1, 0, 0, -1);
        checks.pass(x, 1, 1, 0);
        checks.states("a yes moves no term", x, 0, 1, 0, -1);
        checks.pass(x, 0, 0, 2);
        checks.pass(x, 1, 2, 0);
        checks.pass(x, 2, 0, 1);
        checks.states("a CALL does, and is voted for", x, 1, 0, 1, 0);
        x.timer(3);
        checks.pass(x, 2, 0, 3);
        checks.states("one that asks follows", x, 3, 0, 1, 0);
        checks.pass(x, 2, 0, 2);
        checks.pass(x, 3, 1, 0);
        checks.pass(x, 3, 2, 0);
        checks.states("0 leads", x, 0, 3, 1, 0);
        checks.pass(x, 4, 0, 4);
        checks.states("an APPEND does; there is no vote then", x, 4, 0, 1, -1, 0, 0, 1, 31, 1, 1);
    }

    /** ".. that becomes the receiver's term, it has no vote, and is a FOLLOWER" */
    private void leadersThatHearOfGreaterTerms() {
        for (int kind : new int[] {2, 4, 5}) {
            QuorumLog x = Checks.led(7, 0);
            int read = x.read(0, 0);
            Checks.loseAll(x);
            Checks.forget(x, 1, 2);
            if (kind == 2) {
                x.put(0, 0, 1);
                Checks.loseAll(x);
                x.timer(1);
                checks.pass(x, 0, 1, 2);
                checks.pass(x, 1, 2, 1);
            } else {
                checks.elect(x, 1, 2);
                x.beat(kind == 4 ? 1 : 0);
                if (kind == 5) {
                    checks.pass(x, 4, 0, 2);
                }
            }
            checks.states("0 leads in term 1", x, 0, 3, 1, 0);
            checks.same("its read is kept", x.outcome(read), 0);
            checks.pass(x, kind, kind == 5 ? 2 : 1, 0);
            checks.states("kind " + kind + ": no vote in term 2", x, 0, 0, 2, -1);
            checks.same("its read failed", x.outcome(read), 2);
        }
        candidateIsToldOfAGreaterTerm();
        installOfAGreaterTerm();
    }

    private void candidateIsToldOfAGreaterTerm() {
        QuorumLog x = new QuorumLog(7);
        x.timer(0);
        checks.pass(x, 0, 0, 1);
        checks.pass(x, 1, 1, 0);
        checks.pass(x, 2, 0, 2);
        Checks.loseTo(x, 0);
        x.timer(2);
        checks.pass(x, 0, 2, 1);
        checks.pass(x, 1, 1, 2);
        checks.states("2 stands in term 2", x, 2, 2, 2, 2);
        checks.pass(x, 2, 2, 1);
        checks.states("0 stands in term 1", x, 0, 2, 1, 0);
        checks.pass(x, 2, 0, 1);
        checks.lastMessage("a no of term 2", x, 3, 1, 0, 2, 0, 0, 0);
        checks.pass(x, 3, 1, 0);
        checks.states("kind 3: no vote in term 2", x, 0, 0, 2, -1);
    }

    private void installOfAGreaterTerm() {
        QuorumLog x = Checks.alone(1);
        x.compact(0);
        x.change(0, 4, true);
        checks.pass(x, 6, 0, 4);
        checks.states("kind 6: no vote in term 1", x, 4, 0, 1, -1, 1, 1, 1, 1, 1, 1);
    }

    /** "yes with that term, if the receiver has not HEARD, the term is above its own .. else no with its own term" */
    private void questions() {
        QuorumLog x = Checks.led(7, 0);
        x.timer(1);
        checks.pass(x, 0, 1, 2);
        checks.lastMessage("it has heard: no", x, 1, 2, 1, 1, 0, 0, 0);
        Checks.forget(x, 2);
        x.timer(1);
        checks.pass(x, 0, 1, 2);
        checks.lastMessage("it has not heard: yes", x, 1, 2, 1, 2, 0, 1, 0);

        QuorumLog y = new QuorumLog(7);
        y.timer(0);
        y.timer(0);
        checks.stand(y, 1, 2);
        checks.pass(y, 0, 0, 1);
        checks.lastMessage("its own term: no", y, 1, 1, 0, 1, 0, 0, 0);
        checks.stand(y, 1, 2);
        checks.pass(y, 0, 0, 1);
        checks.lastMessage("a term below its own: no", y, 1, 1, 0, 2, 0, 0, 0);

        QuorumLog z = new QuorumLog(7);
        checks.stand(z, 0, 1);
        checks.stand(z, 0, 1);
        Checks.loseAll(z);
        z.timer(0);
        checks.pass(z, 0, 0, 2);
        checks.lastMessage("a term far above its own: yes, with that", z, 1, 2, 0, 3, 0, 1, 0);
        checks.states("its own term stays", z, 2, 0, 0, -1);
    }

    /**
     * All are in term 2, follow and have not heard. By server, the terms of their entries: 0 has 1 and one 1 more
     * for each put, 1 has 1 and the first put, 2 and 3 have 1 2, and 4 has 1.
     */
    private QuorumLog differentLogs(int puts) {
        QuorumLog x = Checks.led(31, 0);
        for (int i = 0; i < puts; i++) {
            x.put(0, 0, i);
            if (i == 0) {
                checks.pass(x, 4, 0, 1);
            }
            Checks.loseAll(x);
        }
        Checks.forget(x, 2, 3, 4);
        checks.stand(x, 2, 3, 4);
        for (int other : new int[] {0, 1, 3, 4}) {
            checks.pass(x, 2, 2, other);
        }
        checks.pass(x, 3, 3, 2);
        checks.pass(x, 3, 4, 2);
        checks.pass(x, 4, 2, 3);
        Checks.loseAll(x);
        Checks.forget(x, 0, 1, 2, 3, 4);
        return x;
    }

    /** "A log LIES BEFORE another one if its last term is less, or the terms are equal and its last index is less." */
    private void questionsOfLogsThatLieBefore() {
        asks("term and index are equal", 3, 2, true);
        asks("index less by 1", 1, 0, false);
        asks("index less by 2", 4, 0, false);
        asks("index greater by 1", 0, 1, true);
        asks("index greater by 2", 0, 4, true);
        asks("term less, index equal", 1, 3, false);
        asks("term greater, index equal", 3, 1, true);
        asks("term less, index greater", 0, 3, false);
        asks("term greater, index less", 3, 0, true);
        asks("term less, index less", 4, 3, false);
        asks("term greater, index greater", 3, 4, true);
        QuorumLog x = new QuorumLog(3);
        x.timer(0);
        x.deliver(0);
        checks.lastMessage("both are empty", x, 1, 1, 0, 1, 0, 1, 0);
    }

    private void asks(String what, int asker, int asked, boolean yes) {
        QuorumLog x = differentLogs(2);
        x.timer(asker);
        checks.pass(x, 0, asker, asked);
        checks.lastMessage("QUESTION, " + what, x, 1, asked, asker, yes ? 3 : 2, 0, yes ? 1 : 0, 0);
        checks.states("QUESTION, " + what, x, asked, 0, 2);
    }

    private void callsOfLogsThatLieBefore() {
        QuorumLog later = differentLogs(2);
        checks.stand(later, 3, 0, 1);
        calls("term greater, index less", later, 3, 0, true);
        calls("term greater, index equal", later, 3, 1, true);
        calls("term and index are equal", later, 3, 2, true);
        calls("term greater, index greater", later, 3, 4, true);
        QuorumLog longer = differentLogs(2);
        checks.stand(longer, 0, 1, 4);
        calls("index greater by 1", longer, 0, 1, true);
        calls("index greater by 2", longer, 0, 4, true);
        calls("term less, index greater", longer, 0, 2, false);
        QuorumLog even = differentLogs(1);
        checks.stand(even, 1, 0, 4);
        calls("term less, index equal", even, 1, 3, false);
        calls("term and index are equal", even, 1, 0, true);
        QuorumLog shorter = differentLogs(0);
        checks.stand(shorter, 0, 1, 4);
        calls("term less, index less", shorter, 0, 3, false);

        QuorumLog x = Checks.led(31, 0);
        Checks.forget(x, 2, 3);
        checks.stand(x, 4, 2, 3);
        x.put(0, 0, 1);
        checks.pass(x, 4, 0, 1);
        checks.pass(x, 2, 4, 1);
        checks.lastMessage("CALL, index less by 1", x, 3, 1, 4, 2, 0, 0, 0);
        checks.states("it has voted for nobody", x, 1, 0, 2, -1);
    }

    private void calls(String what, QuorumLog x, int caller, int called, boolean yes) {
        checks.pass(x, 2, caller, called);
        checks.lastMessage("CALL, " + what, x, 3, called, caller, 3, 0, yes ? 1 : 0, 0);
        checks.states("CALL, " + what, x, called, 0, 3, yes ? caller : -1);
    }

    /** "if the receiver is ASKING and the term is its own + 1: it counts. No with a term above its own .." */
    private void answers() {
        QuorumLog x = Checks.led(7, 0);
        x.timer(1);
        checks.pass(x, 0, 1, 2);
        checks.pass(x, 0, 1, 0);
        checks.messages("a no with term 1", x, 0, 1, 2, 1, 1, 0, 0, 0);
        x.timer(1);
        checks.pass(x, 0, 1, 2);
        checks.pass(x, 1, 2, 1);
        checks.states("a no with its own term", x, 1, 1, 1, 0);
        checks.pass(x, 1, 0, 1);
        checks.states("a yes with its own + 1", x, 1, 2, 2, 1);
        checks.pass(x, 1, 2, 1);
        checks.states("a no with a term below its own", x, 1, 2, 2, 1);

        QuorumLog y = new QuorumLog(7);
        y.timer(0);
        checks.pass(y, 0, 0, 1);
        checks.pass(y, 0, 0, 2);
        checks.pass(y, 1, 1, 0);
        checks.states("it stands in term 1", y, 0, 2, 1, 0);
        y.timer(0);
        checks.pass(y, 1, 2, 0);
        checks.states("a yes with its own term does not count", y, 0, 1, 1, 0);

        QuorumLog z = new QuorumLog(7);
        z.timer(0);
        checks.stand(z, 1, 2);
        checks.pass(z, 0, 0, 1);
        checks.lastMessage("a no with term 1", z, 1, 1, 0, 1, 0, 0, 0);
        checks.pass(z, 1, 1, 0);
        checks.states("a no with its own + 1", z, 0, 0, 1, -1);
    }

    /** "its vote is none or the sender": one vote a term, and one more in the next. */
    private void votes() {
        QuorumLog x = new QuorumLog(31);
        checks.stand(x, 0, 2, 3);
        checks.stand(x, 1, 2, 3);
        checks.pass(x, 2, 0, 4);
        checks.lastMessage("none: yes", x, 3, 4, 0, 1, 0, 1, 0);
        checks.pass(x, 2, 1, 4);
        checks.lastMessage("another one: no", x, 3, 4, 1, 1, 0, 0, 0);
        checks.pass(x, 2, 0, 1);
        checks.lastMessage("itself: no", x, 3, 1, 0, 1, 0, 0, 0);
        Checks.loseAll(x);
        checks.stand(x, 1, 2, 3);
        checks.pass(x, 2, 1, 4);
        checks.lastMessage("none in term 2: yes", x, 3, 4, 1, 2, 0, 1, 0);
        checks.states("the vote of term 2", x, 4, 0, 2, 1);
        checks.pass(x, 3, 4, 1);
        checks.same("two votes of five", x.state(1, 0), 2);
        x.timer(0);
        Checks.loseAll(x);
        checks.stand(x, 0, 2, 3);
        checks.pass(x, 2, 0, 2);
        Checks.forget(x, 0);
        checks.pass(x, 3, 2, 0);
        checks.states("a vote for one that stands no more", x, 0, 0, 2, 0);
    }

    /** "with a term below its own: no, index 0, round 0, with its own term" */
    private void appendsOfTermsBelow() {
        QuorumLog x = Checks.led(7, 0);
        x.read(0, 0);
        x.put(0, 0, 1);
        Checks.forget(x, 1, 2);
        checks.stand(x, 1, 2);
        checks.pass(x, 4, 0, 1);
        checks.lastMessage("no, 0, 0, term 2", x, 5, 1, 0, 2, 0, 0, 0);
        checks.states("it stands on and has not heard", x, 1, 2, 2, 1, 0, 0, 1, 7, 0, 1);
        checks.pass(x, 4, 0, 2);
        checks.lastMessage("its own term is 1: yes, with the round", x, 5, 2, 0, 1, 1, 1, 1);
        checks.states("it has heard", x, 2, 0, 1, 0, 1, 0, 1, 7, 1, 1);
    }

    /** "6: with a term below its own: no, likewise." */
    private void installsOfTermsBelow() {
        QuorumLog x = Checks.led(7, 0);
        x.put(0, 0, 5);
        checks.copy(x, 0, 1);
        x.compact(0);
        Checks.loseAll(x);
        x.read(0, 0);
        checks.messages("round 1", x, 1, 6, 0, 2, 1, 2, 0, 1);
        x.beat(0);
        Checks.forget(x, 1, 2);
        checks.stand(x, 1, 2);
        checks.pass(x, 6, 0, 2);
        checks.lastMessage("its own term is 1: yes, with the round", x, 5, 2, 0, 1, 2, 1, 1);
        checks.pass(x, 2, 1, 2);
        Checks.forget(x, 2);
        checks.pass(x, 6, 0, 2);
        checks.lastMessage("no, 0, 0, term 2", x, 5, 2, 0, 2, 0, 0, 0);
        checks.states("it has not heard", x, 2, 0, 2, 1, 2, 2, 2, 7, 0, 1);
    }

    /** "if the index before is above its last one .. no, with the lesser one of its last index and .." */
    private void indexBeforeAboveTheLast() {
        for (int more = 0; more < 3; more++) {
            QuorumLog x = Checks.led(7, 0);
            for (int i = 0; i < more; i++) {
                x.put(0, 0, i);
                checks.copy(x, 0, 1);
                Checks.loseAll(x);
            }
            x.crash(0);
            Checks.forget(x, 1, 2);
            checks.elect(x, 1, 2);
            x.beat(1);
            checks.messages("the index before", x, 1, 4, 1, 2, 2, 1 + more, 1, 0);
            checks.pass(x, 4, 1, 2);
            if (more == 0) {
                checks.lastMessage("its last one: yes", x, 5, 2, 1, 2, 2, 1, 0);
            } else {
                checks.lastMessage(more + " above it: no, with its last index", x, 5, 2, 1, 2, 1, 0, 0);
                checks.states("it has heard, and has what it had", x, 2, 0, 2, 1, 0, 0, 1, 7, 1, 1);
            }
        }
    }

    /** ".. its own entry there has another term: no, with the lesser one of .. the index before less 1 (at least 0)" */
    private void anotherTermAtTheIndexBefore() {
        QuorumLog x = new QuorumLog(7);
        checks.elect(x, 0, 1);
        checks.elect(x, 1, 2);
        x.beat(1);
        checks.pass(x, 4, 1, 2);
        Checks.loseAll(x);
        Checks.forget(x, 0, 1, 2);
        checks.elect(x, 2, 1);
        x.beat(2);
        checks.states("1 of term 1", x, 0, 0, 1, 0, 0, 0, 1);
        checks.entries("1 of term 1", x, 0, 1, 1, 0, 0, 0);
        checks.messages("before is 1 of term 2", x, 0, 4, 2, 0, 3, 1, 1, 0);
        checks.pass(x, 4, 2, 0);
        checks.lastMessage("another term there: no, with 0", x, 5, 0, 2, 3, 0, 0, 0);
        checks.entries("it has what it had", x, 0, 1, 1, 0, 0, 0);
        checks.pass(x, 5, 0, 2);
        checks.lastMessage("from the first one on", x, 4, 2, 0, 3, 0, 2, 0);
        checks.pass(x, 4, 2, 0);
        checks.lastMessage("index 0 always fits: yes", x, 5, 0, 2, 3, 2, 1, 0);
        checks.entries("cut away", x, 0, 1, 2, 0, 0, 0);
        checks.entries("appended", x, 0, 2, 3, 0, 0, 0);

        QuorumLog y = new QuorumLog(7);
        y.crash(2);
        y.timer(0);
        Checks.deliverAll(y);
        y.crash(0);
        y.restart(2);
        Checks.forget(y, 1);
        checks.elect(y, 1, 2);
        y.beat(1);
        checks.pass(y, 4, 1, 2);
        checks.lastMessage("an empty log, before is 1: no, with 0", y, 5, 2, 1, 2, 0, 0, 0);
    }

    /** "not below its snapshot's and its own entry (or the snapshot) there has another term" */
    private void indexBeforeAtTheSnapshot() {
        QuorumLog x = Checks.led(3, 0);
        x.beat(0);
        x.beat(0);
        x.put(0, 0, 2);
        x.put(0, 0, 3);
        Checks.deliver(x, 1);
        checks.same("COMMIT is 1", x.state(1, 3), 1);
        x.compact(1);
        checks.pass(x, 4, 0, 1);
        checks.lastMessage("at the snapshot: yes, with it", x, 5, 1, 0, 1, 1, 1, 0);
        checks.pass(x, 4, 0, 1);
        checks.lastMessage("one entry behind the snapshot", x, 5, 1, 0, 1, 2, 1, 0);
        checks.pass(x, 4, 0, 1);
        checks.lastMessage("two entries behind the snapshot", x, 5, 1, 0, 1, 3, 1, 0);
        checks.states("behind the snapshot", x, 1, 0, 1, 0, 1, 1, 3);
    }

    /** "entries at or below its snapshot's index are passed over" */
    private void entriesThatArePassedOver() {
        QuorumLog x = Checks.led(7, 0);
        x.beat(0);
        x.lose(1);
        x.put(0, 0, 2);
        checks.copy(x, 0, 2);
        x.put(0, 0, 3);
        checks.copy(x, 0, 2);
        checks.same("0 and 2 have 3", x.state(0, 3), 3);
        x.beat(0);
        checks.lastMessage("to 2", x, 4, 0, 2, 1, 3, 0, 0);
        x.put(0, 0, 4);
        checks.messages("to 1: none behind 1", x, 0, 4, 0, 1, 1, 1, 0, 0);
        checks.messages("to 1: 2", x, 1, 4, 0, 1, 1, 1, 1, 0);
        checks.messages("to 1: 2 and 3", x, 2, 4, 0, 1, 1, 1, 2, 0);
        checks.messages("to 1: 2 and 3, which count", x, 3, 4, 0, 1, 1, 1, 2, 0);
        x.deliver(3);
        checks.states("1 has 3", x, 1, 0, 1, 0, 3, 0, 3);
        x.compact(1);
        checks.states("and cuts it away", x, 1, 0, 1, 0, 3, 3, 3);
        x.deliver(0);
        checks.lastMessage("none, below the snapshot: yes, with the index before", x, 5, 1, 0, 1, 1, 1, 0);
        x.deliver(0);
        checks.lastMessage("one below it: yes, with it", x, 5, 1, 0, 1, 2, 1, 0);
        x.deliver(0);
        checks.lastMessage("one below, one at it: yes, with that", x, 5, 1, 0, 1, 3, 1, 0);
        checks.states("nothing was taken", x, 1, 0, 1, 0, 3, 3, 3, 7, 1, 1);
    }

    /** ".. passed over": one that is behind the snapshot is taken, though the one before it is not. */
    private void entriesOnBothSidesOfTheSnapshot() {
        QuorumLog x = Checks.led(7, 0);
        x.put(0, 0, 2);
        checks.copy(x, 0, 2);
        Checks.loseTo(x, 2);
        x.beat(0);
        x.put(0, 0, 3);
        checks.messages("2, which counts", x, 1, 4, 0, 1, 1, 1, 1, 0);
        int both = x.message(2, 2) == 1 ? 2 : 3;
        checks.messages("2 and 3", x, both, 4, 0, 1, 1, 1, 2, 0);
        x.deliver(1);
        x.compact(1);
        checks.states("1 has cut 2 away", x, 1, 0, 1, 0, 2, 2, 2);
        x.deliver(both - 1);
        checks.lastMessage("yes, with 3", x, 5, 1, 0, 1, 3, 1, 0);
        checks.states("3 was taken", x, 1, 0, 1, 0, 2, 2, 3);
        checks.entries("3 was taken", x, 1, 3, 1, 1, 0, 3);
        checks.same("2 was not", x.entry(1, 2, 0), -1);
    }

    /** "from the first one on whose index it has with another term its log is cut away" */
    private void logsThatAreCutAway() {
        QuorumLog first = differentLogs(2);
        checks.stand(first, 3, 1, 4);
        checks.pass(first, 2, 3, 1);
        checks.pass(first, 2, 3, 4);
        checks.pass(first, 3, 1, 3);
        checks.pass(first, 3, 4, 3);
        checks.same("3 leads", first.state(3, 0), 3);
        checks.pass(first, 4, 3, 0);
        checks.lastMessage("before is 2 of term 2: no, with 1", first, 5, 0, 3, 3, 1, 0, 0);
        checks.pass(first, 5, 0, 3);
        checks.pass(first, 4, 3, 0);
        checks.lastMessage("yes", first, 5, 0, 3, 3, 3, 1, 0);
        checks.states("0 had 2 and 3 of term 1", first, 0, 0, 3, -1, 0, 0, 3);
        checks.entries("the first one with another term", first, 0, 2, 2, 0, 0, 0);
        checks.entries("and all behind it", first, 0, 3, 3, 0, 0, 0);
        theSecondEntryCutsAway();
        longerLogsStay();
    }

    private void theSecondEntryCutsAway() {
        QuorumLog x = Checks.led(31, 3);
        x.beat(3);
        for (int other : new int[] {0, 1, 4}) {
            x.lose(Checks.find(x, 4, 3, other));
        }
        Checks.forget(x, 0, 1, 4);
        checks.stand(x, 0, 1, 4);
        checks.pass(x, 2, 0, 1);
        checks.pass(x, 2, 0, 4);
        checks.pass(x, 2, 0, 3);
        checks.pass(x, 3, 1, 0);
        checks.pass(x, 3, 4, 0);
        Checks.forget(x, 2);
        checks.same("an APPEND of 3 in term 1 waits", Checks.find(x, 4, 3, 2), 0);
        checks.pass(x, 4, 0, 2);
        checks.states("2 has 1 of term 1, 2 of term 2", x, 2, 0, 2, -1, 0, 0, 2);
        checks.stand(x, 3, 1, 4);
        checks.pass(x, 2, 3, 2);
        checks.pass(x, 2, 3, 1);
        checks.pass(x, 2, 3, 4);
        checks.pass(x, 3, 1, 3);
        checks.pass(x, 3, 4, 3);
        checks.states("3 leads in term 3", x, 3, 3, 3, 3, 1, 0, 2);
        checks.pass(x, 4, 3, 2);
        checks.lastMessage("its old APPEND: no, 0, 0, term 3", x, 5, 2, 3, 3, 0, 0, 0);
        checks.pass(x, 5, 2, 3);
        checks.lastMessage("so NEXT is 1", x, 4, 3, 2, 3, 0, 2, 0);
        x.lose(Checks.find(x, 4, 3, 2));
        x.deliver(x.waiting() - 1);
        checks.lastMessage("yes", x, 5, 2, 3, 3, 2, 1, 0);
        checks.entries("the first one it had", x, 2, 1, 1, 0, 0, 0);
        checks.entries("the second one it had with another term", x, 2, 2, 3, 0, 0, 0);
    }

    private void longerLogsStay() {
        QuorumLog x = Checks.led(3, 0);
        x.put(0, 0, 2);
        x.put(0, 0, 3);
        x.deliver(1);
        checks.same("1 has 3", x.state(1, 5), 3);
        x.deliver(0);
        checks.lastMessage("an APPEND up to 2: yes, with 2", x, 5, 1, 0, 1, 2, 1, 0);
        checks.entries("3 stays", x, 1, 3, 1, 1, 0, 3);
    }

    /** "as long as its log has less than 48; the message is as if it ended there" */
    private void logsThatAreFull() {
        QuorumLog x = Checks.led(7, 0);
        for (int index = 2; index <= 47; index++) {
            if ((index - 1) % 24 == 0) {
                x.compact(0);
            }
            x.put(0, index % 4, index);
            Checks.deliver(x, 4);
        }
        x.compact(0);
        x.compact(2);
        x.put(0, 0, 48);
        x.put(0, 0, 49);
        Checks.loseTo(x, 1);
        Checks.deliverAll(x);
        checks.states("0 and 2 have 49", x, 0, 3, 1, 0, 49, 47, 49);
        checks.states("1 has 47 entries", x, 1, 0, 1, 0, 46, 0, 47);
        x.beat(0);
        x.lose(1);
        checks.messages("two entries", x, 0, 4, 0, 1, 1, 47, 2, 0);
        x.deliver(0);
        checks.lastMessage("one is taken, as if it were alone", x, 5, 1, 0, 1, 48, 1, 0);
        checks.states("COMMIT, too, is no more", x, 1, 0, 1, 0, 48, 0, 48);
        x.deliver(0);
        checks.lastMessage("the rest", x, 4, 0, 1, 1, 48, 1, 0);
        x.beat(0);
        x.deliver(0);
        checks.lastMessage("none is taken: the index before", x, 5, 1, 0, 1, 48, 1, 0);
        checks.states("COMMIT, too, is no more", x, 1, 0, 1, 0, 48, 0, 48);
        x.compact(1);
        x.deliver(0);
        checks.states("room again", x, 1, 0, 1, 0, 49, 48, 49);
    }

    /** ".. less than 48": what is cut away makes room. */
    private void fullLogsThatAreCutAway() {
        QuorumLog x = Checks.longLog(44);
        for (int other = 2; other < 5; other++) {
            x.compact(0);
            x.change(0, other, true);
            Checks.deliverAll(x);
        }
        x.put(0, 1, 48);
        checks.pass(x, 4, 0, 1);
        Checks.loseAll(x);
        checks.states("1 has 48 entries", x, 1, 0, 1, 0, 47, 0, 48);
        Checks.forget(x, 2, 3, 4);
        checks.stand(x, 2, 3, 4);
        for (int other = 3; other < 5; other++) {
            checks.pass(x, 2, 2, other);
            checks.pass(x, 3, other, 2);
        }
        checks.states("2 leads", x, 2, 3, 2, 2);
        checks.same("with another 48", x.state(2, 5), 48);
        checks.pass(x, 4, 2, 1);
        checks.lastMessage("yes, with 48", x, 5, 1, 2, 2, 48, 1, 0);
        checks.entries("the other 48", x, 1, 48, 2, 0, 0, 0);
        checks.states("48 entries still", x, 1, 0, 2, -1, 47, 0, 48);
    }

    /** "COMMIT becomes, if that is more, the lesser one of the leader's and the index of the last entry .." */
    private void commitOfAFollower() {
        QuorumLog x = Checks.led(31, 0);
        x.put(0, 0, 2);
        x.put(0, 0, 3);
        x.put(0, 0, 4);
        Checks.loseTo(x, 3);
        Checks.loseTo(x, 4);
        Checks.deliverAll(x);
        checks.states("0, 1 and 2 have 4", x, 0, 3, 1, 0, 4, 0, 4);
        x.beat(0);
        checks.pass(x, 4, 0, 3);
        checks.states("the message's end, 3, is less than the leader's, 4", x, 3, 0, 1, 0, 3, 0, 3);
        x.put(0, 0, 5);
        checks.lastMessage("to 4: 2 and 3", x, 4, 0, 4, 1, 1, 2, 0);
        checks.pass(x, 4, 0, 1);
        checks.states("without any: the index before", x, 1, 0, 1, 0, 4, 0, 4);
        checks.pass(x, 4, 0, 1);
        checks.states("the leader's, 4, is less than the message's end, 5", x, 1, 0, 1, 0, 4, 0, 5);
        checks.pass(x, 5, 3, 0);
        checks.pass(x, 4, 0, 3);
        checks.states("2 and 3, of an APPEND of before", x, 3, 0, 1, 0, 3, 0, 3);

        QuorumLog y = Checks.led(3, 0);
        y.beat(0);
        y.put(0, 0, 2);
        y.deliver(1);
        y.deliver(1);
        y.beat(0);
        y.deliver(1);
        checks.states("COMMIT is 2", y, 1, 0, 1, 0, 2, 0, 2);
        y.deliver(0);
        checks.states("not more: it stays", y, 1, 0, 1, 0, 2, 0, 2);
    }

    /** "If the snapshot's index is above its COMMIT" */
    private void installsAndCommit() {
        QuorumLog above = Checks.led(7, 0);
        above.beat(0);
        Checks.deliverAll(above);
        above.put(0, 0, 2);
        checks.copy(above, 0, 1);
        above.compact(0);
        Checks.loseAll(above);
        above.beat(0);
        checks.states("COMMIT is 1", above, 2, 0, 1, 0, 1, 0, 1);
        checks.pass(above, 6, 0, 2);
        checks.states("the snapshot's is 2: taken", above, 2, 0, 1, 0, 2, 2, 2, 7, 1, 1);

        QuorumLog x = Checks.led(7, 0);
        x.put(0, 0, 2);
        checks.copy(x, 0, 1);
        x.beat(0);
        x.compact(0);
        x.beat(0);
        x.beat(0);
        Checks.loseTo(x, 1);
        x.lose(0);
        x.deliver(0);
        checks.states("COMMIT is 2", x, 2, 0, 1, 0, 2, 0, 2);
        checks.pass(x, 6, 0, 2);
        checks.lastMessage("yes in any case", x, 5, 2, 0, 1, 2, 1, 0);
        checks.states("the snapshot's is 2: its own stays", x, 2, 0, 1, 0, 2, 0, 2, 7, 1, 1);
        checks.pass(x, 5, 2, 0);
        checks.pass(x, 5, 2, 0);
        x.put(0, 0, 3);
        checks.copy(x, 0, 2);
        x.beat(0);
        checks.pass(x, 4, 0, 2);
        checks.states("COMMIT is 3", x, 2, 0, 1, 0, 3, 0, 3);
        checks.pass(x, 6, 0, 2);
        checks.lastMessage("yes in any case", x, 5, 2, 0, 1, 2, 1, 0);
        checks.states("the snapshot's is 2: its own stays", x, 2, 0, 1, 0, 3, 0, 3, 7, 1, 1);
    }

    /** "its log is what it had behind that index, if it had an entry .. there with the snapshot's term, else empty" */
    private void whatInstallsLeave() {
        QuorumLog x = Checks.led(7, 0);
        x.put(0, 0, 2);
        x.put(0, 0, 3);
        checks.copy(x, 0, 1);
        x.compact(0);
        x.lose(Checks.find(x, 4, 0, 2));
        checks.pass(x, 4, 0, 2);
        Checks.loseAll(x);
        x.beat(0);
        checks.states("it has 2 and, behind it, 3", x, 2, 0, 1, 0, 1, 0, 3);
        checks.pass(x, 6, 0, 2);
        checks.states("3 stays", x, 2, 0, 1, 0, 2, 2, 3, 7, 1, 1);
        checks.entries("3 stays", x, 2, 3, 1, 1, 0, 3);
        checks.same("2 is the snapshot's", x.entry(2, 2, 0), -1);

        QuorumLog y = differentLogs(3);
        checks.stand(y, 3, 2, 4);
        for (int other : new int[] {2, 4}) {
            checks.pass(y, 2, 3, other);
            checks.pass(y, 3, other, 3);
        }
        checks.copy(y, 3, 2);
        checks.copy(y, 3, 4);
        checks.copy(y, 3, 4);
        checks.states("3 leads with 1 2 3", y, 3, 3, 3, 3, 3, 0, 3);
        y.compact(3);
        Checks.loseAll(y);
        y.beat(3);
        checks.states("0 has 3 of term 1 and, behind it, 4", y, 0, 0, 2, -1, 0, 0, 4);
        checks.pass(y, 6, 3, 0);
        checks.states("another term: nothing stays", y, 0, 0, 3, -1, 3, 3, 3, 31, 1, 1);
        checks.states("1 has no 3", y, 1, 0, 2, -1, 0, 0, 2);
        checks.pass(y, 6, 3, 1);
        checks.states("no entry there: nothing stays", y, 1, 0, 3, -1, 3, 3, 3, 31, 1, 1);
        y.put(3, 2, 8);
        Checks.loseAll(y);
        y.beat(3);
        checks.pass(y, 4, 3, 2);
        checks.states("2 has 4", y, 2, 0, 3, 3, 3, 0, 4);
    }

    /** "if it is LEADER still and NEXT of the sender is not above its last index .., it sends to that one" */
    private void nextAndTheLastIndex() {
        QuorumLog x = Checks.led(3, 0);
        x.put(0, 0, 2);
        x.put(0, 0, 3);
        x.deliver(0);
        x.lose(0);
        x.deliver(0);
        checks.same("NEXT is the last index: it sends", x.waiting(), 1);
        checks.messages("that one", x, 0, 4, 0, 1, 1, 2, 1, 0);
        x.deliver(0);
        x.deliver(0);
        checks.same("NEXT is one above: it does not", x.waiting(), 0);
        checks.same("COMMIT", x.state(0, 3), 3);
    }

    /** "MATCH is the greater one of it and the index, NEXT is MATCH + 1" */
    private void resultsOutOfOrder() {
        QuorumLog x = Checks.led(3, 0);
        x.put(0, 0, 2);
        x.put(0, 0, 3);
        x.deliver(1);
        x.deliver(0);
        checks.messages("yes, with 3", x, 0, 5, 1, 0, 1, 3, 1, 0);
        checks.messages("yes, with 2", x, 1, 5, 1, 0, 1, 2, 1, 0);
        x.deliver(0);
        x.deliver(0);
        checks.same("the lesser one came late, nothing is sent", x.waiting(), 0);
        x.beat(0);
        checks.lastMessage("NEXT is 4", x, 4, 0, 1, 1, 3, 0, 0);
    }

    /** Server 1 leads 0 and 2 in term 2 with the entries 1 .. 4, server 2 has 1 alone; 0 is down. */
    private QuorumLog farAhead() {
        QuorumLog x = Checks.led(7, 0);
        for (int value = 2; value <= 3; value++) {
            x.put(0, 0, value);
            checks.copy(x, 0, 1);
            Checks.loseAll(x);
        }
        x.crash(0);
        Checks.forget(x, 1, 2);
        checks.elect(x, 1, 2);
        checks.states("1 leads", x, 1, 3, 2, 1, 0, 0, 4);
        return x;
    }

    /** "No: NEXT is the lesser one of NEXT - 1 and the index + 1, at least 1" */
    private void nextBehindRefusals() {
        QuorumLog x = farAhead();
        for (int i = 0; i < 4; i++) {
            x.beat(1);
        }
        Checks.loseTo(x, 0);
        Checks.deliver(x, 4);
        checks.same("four results", x.waiting(), 4);
        for (int k = 0; k < 4; k++) {
            checks.messages("no, with 1", x, k, 5, 2, 1, 2, 1, 0, 0);
        }
        x.deliver(0);
        checks.lastMessage("NEXT was 4: the index + 1 is less, 2", x, 4, 1, 2, 2, 1, 2, 0);
        x.deliver(0);
        checks.lastMessage("NEXT was 2: NEXT - 1 is less, 1", x, 4, 1, 2, 2, 0, 2, 0);
        x.deliver(0);
        checks.lastMessage("NEXT was 1: at least 1", x, 4, 1, 2, 2, 0, 2, 0);
        x.deliver(0);
        checks.lastMessage("NEXT was 1: at least 1", x, 4, 1, 2, 2, 0, 2, 0);
        Checks.deliverAll(x);
        checks.states("all is there at last", x, 2, 0, 2, 1, 0, 0, 4);
        checks.same("and counts", x.state(1, 3), 4);
    }

    /** ".. and the sender is in its configuration", "it sends to that one, if it is in its configuration" */
    private void resultsOfThoseThatLeft() {
        QuorumLog x = farAhead();
        x.beat(1);
        checks.pass(x, 4, 1, 2);
        checks.lastMessage("no, with 1", x, 5, 2, 1, 2, 1, 0, 0);
        x.restart(0);
        checks.copy(x, 1, 0);
        checks.same("1 and 0 have all", x.state(1, 3), 4);
        x.change(1, 2, false);
        int waiting = x.waiting();
        checks.pass(x, 5, 2, 1);
        checks.same("a no of one that left: nothing is sent", x.waiting(), waiting - 1);

        QuorumLog y = Checks.led(7, 0);
        y.put(0, 0, 2);
        checks.pass(y, 4, 0, 2);
        y.change(0, 2, false);
        waiting = y.waiting();
        checks.pass(y, 5, 2, 0);
        checks.same("a yes of one that left: nothing is sent", y.waiting(), waiting - 1);
        checks.same("nor does it count", y.state(0, 3), 1);
    }

    /** "most of its configuration have confirmed this round or a later one" */
    private void roundsThatAreConfirmed() {
        QuorumLog x = Checks.led(31, 0);
        x.beat(0);
        x.read(0, 0);
        x.read(0, 1);
        for (int round = 0; round < 3; round++) {
            for (int other = 1; other < 3; other++) {
                checks.same("round 1, before that", x.outcome(0), round > 1 ? 1 : 0);
                checks.same("round 2, before that", x.outcome(1), 0);
                checks.copy(x, 0, other);
            }
            checks.same("round 1, three of five have confirmed " + round, x.outcome(0), round >= 1 ? 1 : 0);
            checks.same("round 2, three of five have confirmed " + round, x.outcome(1), round >= 2 ? 1 : 0);
        }
        QuorumLog later = Checks.led(31, 0);
        later.read(0, 0);
        Checks.loseAll(later);
        later.read(0, 0);
        checks.copy(later, 0, 3);
        checks.same("two of five", later.outcome(0), 0);
        checks.copy(later, 0, 4);
        checks.same("a later round", later.outcome(0), 1);
        checks.same("its own round", later.outcome(1), 1);
    }

    /** "the sender's confirmed round is the greater one of it and the message's" */
    private void roundsOutOfOrder() {
        QuorumLog x = Checks.led(31, 0);
        x.beat(0);
        x.read(0, 0);
        checks.messages("round 0 to 1", x, 0, 4, 0, 1, 1, 1, 0, 0);
        checks.messages("round 1 to 1", x, 4, 4, 0, 1, 1, 1, 0, 1);
        x.deliver(4);
        checks.pass(x, 5, 1, 0);
        x.deliver(0);
        checks.pass(x, 5, 1, 0);
        checks.same("two of five", x.outcome(0), 0);
        x.lose(Checks.find(x, 4, 0, 2));
        checks.copy(x, 0, 2);
        checks.same("1 has confirmed round 1, though round 0 came later", x.outcome(0), 1);
    }

    public static void main(String[] args) {
        Checks checks = new Checks("TermsEdgesTest");
        TermsEdgesTest test = new TermsEdgesTest(checks);
        test.sentToLongRows();
        test.callsWithFullRows();
        test.deliveriesFromFullRows();
        test.comesToOneThatIsDown();
        test.lastIndexOfEmptyLogs();
        test.configurationsThatAreCutAway();
        test.sentToAllButItself();
        test.mostAreMoreThanHalf();
        test.noneOneOrTwoEntries();
        test.nextBehindTheSnapshot();
        test.greatestIndexThatMostHave();
        test.entriesOfOlderTermsDoNotCount();
        test.leaderThatLeaves();
        test.termsThatAreAbove();
        test.leadersThatHearOfGreaterTerms();
        test.questions();
        test.questionsOfLogsThatLieBefore();
        test.callsOfLogsThatLieBefore();
        test.answers();
        test.votes();
        test.appendsOfTermsBelow();
        test.installsOfTermsBelow();
        test.indexBeforeAboveTheLast();
        test.anotherTermAtTheIndexBefore();
        test.indexBeforeAtTheSnapshot();
        test.entriesThatArePassedOver();
        test.entriesOnBothSidesOfTheSnapshot();
        test.logsThatAreCutAway();
        test.logsThatAreFull();
        test.fullLogsThatAreCutAway();
        test.commitOfAFollower();
        test.installsAndCommit();
        test.whatInstallsLeave();
        test.nextAndTheLastIndex();
        test.resultsOutOfOrder();
        test.nextBehindRefusals();
        test.resultsOfThoseThatLeft();
        test.roundsThatAreConfirmed();
        test.roundsOutOfOrder();
        checks.end();
    }
}
