import java.lang.annotation.ElementType;
import java.lang.annotation.Retention;
import java.lang.annotation.RetentionPolicy;
import java.lang.annotation.Target;

/** The sentence of the document, or the part of one, that names the boundary case which a test is about. */
@Retention(RetentionPolicy.RUNTIME)
@Target(ElementType.METHOD)
@interface Sentence {
    /** The part of the document in which it stands: "Promise 2: push", or "Terms: TEXTS". */
    String of();

    /** Its words, as they stand there. */
    String says();
}
