/** Boundaries of promises 36 to 38 and 46 to 48: messages. */
final class MessageBoundaries {
    private static final String NO_MESSAGE = "Throws `IndexOutOfBoundsException` if there is no such message";

    private MessageBoundaries() {
    }

    static void addTo(Sentences sentences) {
        addQuestions(sentences);
        addSend(sentences);
        addDeliver(sentences);
        addDrop(sentences);
    }

    private static void addQuestions(Sentences sentences) {
        sentences.test(36, "Returns 0 to 6.", MessageBoundaries::countsFrom0To6);
        sentences.test(37, "numbered from 0 in the order in which they were sent.", MessageBoundaries::numbersInOrder);
        sentences.test(37, NO_MESSAGE, due -> Refusals.messages(due, (notes, message) -> notes.senderOf(message)));
        sentences.test(38, "Returns true if the state of the replica does not cover the message.",
                MessageBoundaries::newsUntilCovered);
        sentences.test(38, NO_MESSAGE + " or replica", MessageBoundaries::isNewsThrows);
    }

    private static void addSend(Sentences sentences) {
        sentences.test(46, "There are at most 6 messages", MessageBoundaries::sixAtMost);
        sentences.test(46, "A message is a copy of the state of its sender at that time.", MessageBoundaries::copyOfItsTime);
        sentences.test(46, "Returns the number of the new message.", MessageBoundaries::newNumbersFrom0To5);
        sentences.test(46, "Throws `IndexOutOfBoundsException` if there is no such replica",
                due -> Refusals.replicas(due, (notes, replica) -> notes.send(replica)));
        sentences.test(46, "Throws `IllegalStateException` if there are 6 messages", MessageBoundaries::seventhIsRefused);
        sentences.test(46, "If several exceptions apply to one call, the method throws the one that is listed first.",
                MessageBoundaries::wrongReplicaComesFirst);
    }

    private static void addDeliver(Sentences sentences) {
        sentences.test(47, "A message can be delivered any number of times, until it is dropped.",
                MessageBoundaries::deliveredAnyTimes);
        sentences.test(47, "messages that may arrive late, in any order and more than once.", MessageBoundaries::lateAndTwice);
        sentences.test(47, "The message stays.", MessageBoundaries::messageStays);
        sentences.test(47, "`replica`: a replica, possibly the sender", MessageBoundaries::deliveredToItsSender);
        sentences.test(47, "Returns true if the replica changed.", MessageBoundaries::changedOrNot);
        sentences.test(47, NO_MESSAGE + " or replica", MessageBoundaries::deliverThrows);
    }

    private static void addDrop(Sentences sentences) {
        sentences.test(48, "When a message is dropped, the numbers of all later messages decrease by 1.",
                MessageBoundaries::laterNumbersDecrease);
        sentences.test(48, "Returns the number of messages that are left.", MessageBoundaries::leftFrom5To0);
        sentences.test(48, NO_MESSAGE, due -> Refusals.messages(due, (notes, message) -> notes.drop(message)));
    }

    // ---- questions

    private static void countsFrom0To6(Checks due) {
        Notes notes = Worlds.empty(2, 0, 0);
        for (int count = 0; count <= 6; count++) {
            due.equal("messageCount", notes.messageCount(), count);
            due.equal("messageCount of a busy one", Worlds.busy(2, 1, 1, count).messageCount(), count);
            if (count < 6) {
                notes.send(1);
            }
        }
        due.equal("messageCount at first", new Notes().messageCount(), 1);
    }

    private static void numbersInOrder(Checks due) {
        int[] senders = {3, 0, 2, 2, 1, 3};
        Notes notes = Worlds.empty(4, 0, 0);
        for (int message = 0; message < 6; message++) {
            notes.send(senders[message]);
            for (int earlier = 0; earlier <= message; earlier++) {
                due.equal("senderOf(" + earlier + ")", notes.senderOf(earlier), senders[earlier]);
            }
        }
        due.equal("senderOf(5) of a text", Texts.loaded("replicas 4 0 0;send 0;send 0;send 0;send 0;send 0;send 3").senderOf(5), 3);
    }

    private static void newsUntilCovered(Checks due) {
        Notes notes = Texts.loaded("replicas 4 1 0; send 3; inc 3 0 1; send 3; send 3; send 3; send 3; add 3 a; remove 3 a;"
                + " send 3");
        due.no("isNews of an empty state", notes.isNews(0, 0));
        due.yes("isNews of a sum", notes.isNews(1, 0));
        due.yes("isNews of an entry of the version vector", notes.isNews(5, 0));
        due.no("isNews to the sender", notes.isNews(5, 3));
        notes.deliver(1, 0);
        due.no("isNews of what is delivered", notes.isNews(1, 0));
        due.no("isNews of a message with the same state", notes.isNews(4, 0));
        due.yes("isNews of the last one then", notes.isNews(5, 0));
        notes.deliver(5, 1);
        due.no("isNews of an earlier message", notes.isNews(1, 1));
    }

    private static void isNewsThrows(Checks due) {
        Refusals.messages(due, (notes, message) -> notes.isNews(message, 0));
        Refusals.replicas(due, (notes, replica) -> notes.isNews(0, replica));
    }

    // ---- send

    private static void sixAtMost(Checks due) {
        Notes notes = Worlds.empty(2, 0, 0);
        for (int message = 0; message < 6; message++) {
            due.equal("send", notes.send(0), message);
        }
        due.badState("send with 6 messages", () -> notes.send(0));
        due.equal("messageCount after it", notes.messageCount(), 6);
        notes.drop(5);
        due.equal("send after a drop", notes.send(1), 5);
        due.badState("send with 6 messages again", () -> notes.send(1));
        Notes delivering = Worlds.busy(2, 1, 1, 6);
        delivering.deliver(5, 0);
        due.equal("messageCount after a delivery", delivering.messageCount(), 6);
    }

    private static void copyOfItsTime(Checks due) {
        Notes notes = Texts.loaded("replicas 4 4 4; add 3 p; inc 3 3 9; write 3 3 99");
        String sent = Views.state(notes, 3);
        notes.send(3);
        notes.removeTag(3, 15);
        notes.addTag(3, 0);
        notes.decrement(3, 3, 5);
        notes.write(3, 3, 0);
        notes.deliver(0, 0);
        due.equal("the state that was sent", Views.state(notes, 0), sent);
        notes.addTag(0, 7);
        notes.deliver(0, 1);
        due.equal("the message after a change of who got it", Views.state(notes, 1), sent);
    }

    private static void newNumbersFrom0To5(Checks due) {
        for (int count = 0; count < 6; count++) {
            Notes notes = Worlds.busy(3, 1, 1, count);
            due.equal("send with " + count + " messages", notes.send(2), count);
            due.equal("its sender", notes.senderOf(count), 2);
            due.equal("messageCount after it", notes.messageCount(), count + 1);
        }
    }

    private static void seventhIsRefused(Checks due) {
        for (int replica = 0; replica < 3; replica++) {
            int sender = replica;
            Refusals.refused(due, Refusals.BAD_STATE, () -> Worlds.busy(3, 1, 1, 6), "send with 6 messages",
                    notes -> notes.send(sender));
        }
        Refusals.answered(due, Worlds.busy(3, 1, 1, 5), "send with 5 messages", notes -> notes.send(0));
    }

    private static void wrongReplicaComesFirst(Checks due) {
        for (int wrong : new int[] {Integer.MIN_VALUE, -1, 3, Integer.MAX_VALUE}) {
            Refusals.refused(due, Refusals.NO_INDEX, () -> Worlds.busy(3, 1, 1, 6), "send of " + wrong + " with 6 messages",
                    notes -> notes.send(wrong));
        }
    }

    // ---- deliver

    private static void deliveredAnyTimes(Checks due) {
        Notes notes = Texts.loaded("replicas 2 1 0; inc 0 0 5; add 0 a; send 0");
        due.yes("the first delivery", notes.deliver(0, 1));
        for (int time = 2; time <= 30; time++) {
            due.no("delivery " + time, notes.deliver(0, 1));
        }
        due.equal("the counter after them", notes.counterValue(1, 0), 5);
        due.equal("the dots after them", notes.tagDot(1, 0, 0) + notes.liveDots(1, 0), 2);
        notes.drop(0);
        due.noIndex("a delivery of the dropped message", () -> notes.deliver(0, 1));
    }

    private static void lateAndTwice(Checks due) {
        Notes notes = Texts.loaded("replicas 3 1 1; add 0 a; inc 0 0 1; send 0; remove 0 a; add 0 b; inc 0 0 1; write 0 0 4;"
                + " send 0; write 0 0 5; send 0");
        due.yes("the last one first", notes.deliver(2, 1));
        due.no("the first one late", notes.deliver(0, 1));
        due.no("the second one late", notes.deliver(1, 1));
        due.no("the last one again", notes.deliver(2, 1));
        due.yes("in their order: the first", notes.deliver(0, 2));
        due.yes("in their order: the second", notes.deliver(1, 2));
        due.yes("in their order: the last", notes.deliver(2, 2));
        due.yes("all are equal", notes.areEqual(0, 1) && notes.areEqual(1, 2));
    }

    private static void messageStays(Checks due) {
        Notes notes = Worlds.busy(3, 1, 1, 6);
        for (int message = 0; message < 6; message++) {
            notes.deliver(message, 2);
            due.equal("messageCount after a delivery", notes.messageCount(), 6);
            due.equal("its sender", notes.senderOf(message), message % 3);
        }
        due.no("isNews of the last one then", notes.isNews(5, 2));
    }

    private static void deliveredToItsSender(Checks due) {
        Notes notes = Texts.loaded("replicas 4 0 0; add 3 a; send 3; remove 3 a; add 3 b");
        due.no("a delivery to the sender", notes.deliver(0, 3));
        due.equal("its tags", Texts.tags(notes, 3), "b");
        due.equal("it is recorded", notes.undo(), 0);
    }

    private static void changedOrNot(Checks due) {
        String[] changes = {"inc 3 3 1", "dec 3 3 1", "add 3 p", "remove 3 a", "write 3 3 0", "add 3 b;remove 3 b"};
        for (String change : changes) {
            Notes notes = Texts.loaded("replicas 4 4 4;add 0 a;merge 3 0;" + change + ";send 3;send 0");
            due.yes("a delivery of " + change, notes.deliver(0, 0));
            due.no("the same delivery again", notes.deliver(0, 0));
            due.no("a delivery of an older state", notes.deliver(1, 3));
        }
    }

    private static void deliverThrows(Checks due) {
        Refusals.messages(due, (notes, message) -> notes.deliver(message, 0));
        Refusals.replicas(due, (notes, replica) -> notes.deliver(0, replica));
    }

    // ---- drop

    /** Six messages; message i brings the tags up to i. */
    private static Notes six() {
        return Texts.loaded("replicas 4 0 0;add 0 a;send 0;merge 1 0;add 1 b;send 1;merge 2 1;add 2 c;send 2;merge 0 2;add 0 d;"
                + "send 0;merge 1 0;add 1 e;send 1;merge 2 1;add 2 f;send 2");
    }

    private static void laterNumbersDecrease(Checks due) {
        for (int dropped = 0; dropped < 6; dropped++) {
            Notes notes = six();
            notes.drop(dropped);
            for (int message = 0; message < 5; message++) {
                int old = message < dropped ? message : message + 1;
                due.equal("the sender of " + message + " without " + dropped, notes.senderOf(message), old % 3);
                notes.deliver(message, 3);
                due.equal("what " + message + " brings", Texts.tags(notes, 3), "abcdef".substring(0, old + 1));
                notes.undo();
            }
            due.noIndex("the last number", () -> notes.senderOf(5));
            due.equal("the next number", notes.send(3), 5);
            due.equal("its sender", notes.senderOf(5), 3);
            due.no("what it brings is nothing", notes.deliver(5, 2));
        }
    }

    private static void leftFrom5To0(Checks due) {
        Notes first = six();
        Notes last = six();
        for (int left = 5; left >= 0; left--) {
            due.equal("drop of the first", first.drop(0), left);
            due.equal("drop of the last", last.drop(left), left);
            due.equal("messageCount after it", first.messageCount(), left);
        }
        due.noIndex("drop of none", () -> first.drop(0));
    }
}
