import java.util.function.Consumer;
import java.util.function.Supplier;

/** The rule of the full wire, for any call that lets peer 0 send. */
final class FullWire {
    private FullWire() {
    }

    /**
     * The call is made on an empty wire 0, and again where there is room for fewer messages than
     * it sends. Those that find no room are lost; the items of the peers come out the same.
     */
    static void loses(String what, int sends, Supplier<PppNegotiator> scene,
            Consumer<PppNegotiator> call) {
        Check.sentence("Wires and messages", "If the wire is full, the new message is lost, but"
            + " every other effect of the sending action still happens.");
        PppNegotiator x = scene.get();
        Check.due(what + ": empty wire before", x.wireSize(0), 0);
        call.accept(x);
        Check.due(what + ": messages sent", x.wireSize(0), sends);
        for (int room = 0; room <= sends; room++) {
            withRoom(what + ", room for " + room, x, room, scene.get(), call);
        }
    }

    private static void withRoom(String what, PppNegotiator x, int room, PppNegotiator y,
            Consumer<PppNegotiator> call) {
        int others = PppNegotiator.WIRE_CAP - room;
        for (int i = 0; i < others; i++) {
            y.inject(0, 100 + i, 200 + i);
        }
        call.accept(y);
        Check.same(what + ": the same items", Check.items(y), Check.items(x));
        Check.same(what + ": the same wire 1", Check.wire(y, 1), Check.wire(x, 1));
        Check.due(what + ": size", y.wireSize(0), PppNegotiator.WIRE_CAP);
        for (int pos = 0; pos < others; pos++) {
            Check.message(what + ": as before", y, 0, pos, 100 + pos, 0, 200 + pos, -1, -1, -1, -1);
        }
        for (int pos = 0; pos < room; pos++) {
            for (int field = 0; field < 7; field++) {
                Check.due(what + ": message " + pos + " sent, field " + field,
                    y.wireInfo(0, others + pos, field), x.wireInfo(0, pos, field));
            }
        }
    }
}
